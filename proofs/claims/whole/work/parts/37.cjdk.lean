theorem hv_aconst {p : Program} {l : Launch} {e : Env} {R : Room} {s : State} {m : MethodId} {args : Array Value} {below : List Frame} {meth : Method} {c : Code} {nL : Nat} {FR : Nat → Prop} {cells slots : Nat} {Q : State → Prop} {HI : Heap → Prop} {pc : Nat} {loc : List (Nat × Value)} {stk : List Value} {cc : ByteArray} {own : String} (C : CallFix p m c cc nL s args hk_tb own) (d : decode cc pc = .ok (.aconst_null, 1)) (k : hvV p l e R s m args below meth c nL FR cells slots Q HI (pc + 1) loc (.null :: stk)) : hvV p l e R s m args below meth c nL FR cells slots Q HI pc loc stk := fun H locs ls h1 h2 h3 => lv_null C.1 C.2.1 d (k H locs ls h1 h2 h3)
theorem tm9 (x : Int) : (0 ≤ x → Int.tmod x 48 = x % 48) ∧ (x < 0 → Int.tmod x 48 = -((-x) % 48)) := by
  refine ⟨fun h => Int.tmod_eq_emod_of_nonneg h, fun h => ?_⟩
  have e := Int.neg_tmod (a := -x) (b := 48)
  rw [Int.neg_neg, Int.tmod_eq_emod_of_nonneg (a := -x) (by omega)] at e
  exact e
theorem td9 (x : Int) : (0 ≤ x → Int.tdiv x 48 = x / 48) ∧ (x < 0 → Int.tdiv x 48 = -((-x) / 48)) := by
  refine ⟨fun h => Int.tdiv_eq_ediv_of_nonneg h, fun h => ?_⟩
  have e := Int.neg_tdiv (a := -x) (b := 48)
  rw [Int.neg_neg, Int.tdiv_eq_ediv_of_nonneg (a := -x) (by omega)] at e
  exact e

theorem dJ9_max_7cf53_0 : decode cJ9_max_7cf53 0 = .ok (.iload_n 0, 1) := by decide +kernel
theorem dJ9_max_7cf53_1 : decode cJ9_max_7cf53 1 = .ok (.iload_n 1, 1) := by decide +kernel
theorem dJ9_max_7cf53_2 : decode cJ9_max_7cf53 2 = .ok (.if_icmp .lt 7, 3) := by decide +kernel
theorem dJ9_max_7cf53_5 : decode cJ9_max_7cf53 5 = .ok (.iload_n 0, 1) := by decide +kernel
theorem dJ9_max_7cf53_6 : decode cJ9_max_7cf53 6 = .ok (.goto 4, 3) := by decide +kernel
theorem dJ9_max_7cf53_9 : decode cJ9_max_7cf53 9 = .ok (.iload_n 1, 1) := by decide +kernel
theorem dJ9_max_7cf53_10 : decode cJ9_max_7cf53 10 = .ok (.ireturn, 1) := by decide +kernel
set_option maxRecDepth 100000 in
set_option maxHeartbeats 4000000 in
theorem k_J9_max_7cf53 (l : Launch) {D : va_G} {ar : Nat → ClassId} {B : Nat → Prop} {b n : Nat} {w0 : zcW}  (τ : Nat → Nat → Int) (x : Int) (y : Int) (r_x : inI x) (r_y : inI y) : zt_M l D ar B b w0 n yJ9_max_7cf53 cJ9_max_7cf53 2 (some .int) 0 0 [.int (iz x), .int (iz y)] τ (some (.int (iz (if x < y then y else x)))) (τ) := by
  refine zc_start (own := RJ9) (by decide +kernel) rfl (Nat.le_of_ble_eq_true rfl) ?_
  intro p e s m args below meth c C K hr hlk hnam
  refine hv_iload_n C 0 0 dJ9_max_7cf53_0 rfl rfl ?_
  refine hv_iload_n C 1 1 dJ9_max_7cf53_1 rfl rfl ?_
  refine hv_icmp_lt C 9 dJ9_max_7cf53_2 (by decide) (by omega) (by omega) (fun h2 => ?_) (fun h2 => ?_)
  · skip
    refine hv_iload_n C 1 1 dJ9_max_7cf53_9 rfl rfl ?_
    exact zt_iret C hr hlk (by first | exact if_p (by omega) rfl | exact if_n (by omega) rfl) rfl dJ9_max_7cf53_10
  · skip
    refine hv_iload_n C 0 0 dJ9_max_7cf53_5 rfl rfl ?_
    refine hv_goto C 10 dJ9_max_7cf53_6 (by decide) ?_
    exact zt_iret C hr hlk (by first | exact if_p (by omega) rfl | exact if_n (by omega) rfl) rfl dJ9_max_7cf53_10
theorem dJ9_min_7cf53_0 : decode cJ9_min_7cf53 0 = .ok (.iload_n 0, 1) := by decide +kernel
theorem dJ9_min_7cf53_1 : decode cJ9_min_7cf53 1 = .ok (.iload_n 1, 1) := by decide +kernel
theorem dJ9_min_7cf53_2 : decode cJ9_min_7cf53 2 = .ok (.if_icmp .gt 7, 3) := by decide +kernel
theorem dJ9_min_7cf53_5 : decode cJ9_min_7cf53 5 = .ok (.iload_n 0, 1) := by decide +kernel
theorem dJ9_min_7cf53_6 : decode cJ9_min_7cf53 6 = .ok (.goto 4, 3) := by decide +kernel
theorem dJ9_min_7cf53_9 : decode cJ9_min_7cf53 9 = .ok (.iload_n 1, 1) := by decide +kernel
theorem dJ9_min_7cf53_10 : decode cJ9_min_7cf53 10 = .ok (.ireturn, 1) := by decide +kernel
set_option maxRecDepth 100000 in
set_option maxHeartbeats 4000000 in
theorem k_J9_min_7cf53 (l : Launch) {D : va_G} {ar : Nat → ClassId} {B : Nat → Prop} {b n : Nat} {w0 : zcW}  (τ : Nat → Nat → Int) (x : Int) (y : Int) (r_x : inI x) (r_y : inI y) : zt_M l D ar B b w0 n yJ9_min_7cf53 cJ9_min_7cf53 2 (some .int) 0 0 [.int (iz x), .int (iz y)] τ (some (.int (iz (if y < x then y else x)))) (τ) := by
  refine zc_start (own := RJ9) (by decide +kernel) rfl (Nat.le_of_ble_eq_true rfl) ?_
  intro p e s m args below meth c C K hr hlk hnam
  refine hv_iload_n C 0 0 dJ9_min_7cf53_0 rfl rfl ?_
  refine hv_iload_n C 1 1 dJ9_min_7cf53_1 rfl rfl ?_
  refine hv_icmp_gt C 9 dJ9_min_7cf53_2 (by decide) (by omega) (by omega) (fun h2 => ?_) (fun h2 => ?_)
  · skip
    refine hv_iload_n C 1 1 dJ9_min_7cf53_9 rfl rfl ?_
    exact zt_iret C hr hlk (by first | exact if_p (by omega) rfl | exact if_n (by omega) rfl) rfl dJ9_min_7cf53_10
  · skip
    refine hv_iload_n C 0 0 dJ9_min_7cf53_5 rfl rfl ?_
    refine hv_goto C 10 dJ9_min_7cf53_6 (by decide) ?_
    exact zt_iret C hr hlk (by first | exact if_p (by omega) rfl | exact if_n (by omega) rfl) rfl dJ9_min_7cf53_10
theorem dJ9_abs_0f7a4_0 : decode cJ9_abs_0f7a4 0 = .ok (.iload_n 0, 1) := by decide +kernel
theorem dJ9_abs_0f7a4_1 : decode cJ9_abs_0f7a4 1 = .ok (.ifCond .ge 8, 3) := by decide +kernel
theorem dJ9_abs_0f7a4_4 : decode cJ9_abs_0f7a4 4 = .ok (.iload_n 0, 1) := by decide +kernel
theorem dJ9_abs_0f7a4_5 : decode cJ9_abs_0f7a4 5 = .ok (.ineg, 1) := by decide +kernel
theorem dJ9_abs_0f7a4_6 : decode cJ9_abs_0f7a4 6 = .ok (.goto 4, 3) := by decide +kernel
theorem dJ9_abs_0f7a4_9 : decode cJ9_abs_0f7a4 9 = .ok (.iload_n 0, 1) := by decide +kernel
theorem dJ9_abs_0f7a4_10 : decode cJ9_abs_0f7a4 10 = .ok (.ireturn, 1) := by decide +kernel
set_option maxRecDepth 100000 in
set_option maxHeartbeats 4000000 in
theorem k_J9_abs_0f7a4 (l : Launch) {D : va_G} {ar : Nat → ClassId} {B : Nat → Prop} {b n : Nat} {w0 : zcW}  (τ : Nat → Nat → Int) (x : Int) (r_x : -2147483647 ≤ x ∧ x ≤ 2147483647) : zt_M l D ar B b w0 n yJ9_abs_0f7a4 cJ9_abs_0f7a4 1 (some .int) 0 0 [.int (iz x)] τ (some (.int (iz (if x < 0 then -x else x)))) (τ) := by
  refine zc_start (own := RJ9) (by decide +kernel) rfl (Nat.le_of_ble_eq_true rfl) ?_
  intro p e s m args below meth c C K hr hlk hnam
  refine hv_iload_n C 0 0 dJ9_abs_0f7a4_0 rfl rfl ?_
  refine hv_if_ge C 9 dJ9_abs_0f7a4_1 (by decide) (by omega) (fun h1 => ?_) (fun h1 => ?_)
  · skip
    refine hv_iload_n C 0 0 dJ9_abs_0f7a4_9 rfl rfl ?_
    exact zt_iret C hr hlk (by first | exact if_p (by omega) rfl | exact if_n (by omega) rfl) rfl dJ9_abs_0f7a4_10
  · skip
    refine hv_iload_n C 0 0 dJ9_abs_0f7a4_4 rfl rfl ?_
    refine hv_ineg C dJ9_abs_0f7a4_5 ?_
    refine hv_goto C 10 dJ9_abs_0f7a4_6 (by decide) ?_
    exact zt_iret C hr hlk (by first | exact if_p (by omega) rfl | exact if_n (by omega) rfl) rfl dJ9_abs_0f7a4_10
theorem dJ9_floorMod_7cf53_0 : decode cJ9_floorMod_7cf53 0 = .ok (.iload_n 0, 1) := by decide +kernel
theorem dJ9_floorMod_7cf53_1 : decode cJ9_floorMod_7cf53 1 = .ok (.iload_n 1, 1) := by decide +kernel
theorem dJ9_floorMod_7cf53_2 : decode cJ9_floorMod_7cf53 2 = .ok (.irem, 1) := by decide +kernel
theorem dJ9_floorMod_7cf53_3 : decode cJ9_floorMod_7cf53 3 = .ok (.istore_n 2, 1) := by decide +kernel
theorem dJ9_floorMod_7cf53_4 : decode cJ9_floorMod_7cf53 4 = .ok (.iload_n 0, 1) := by decide +kernel
theorem dJ9_floorMod_7cf53_5 : decode cJ9_floorMod_7cf53 5 = .ok (.iload_n 1, 1) := by decide +kernel
theorem dJ9_floorMod_7cf53_6 : decode cJ9_floorMod_7cf53 6 = .ok (.ixor, 1) := by decide +kernel
theorem dJ9_floorMod_7cf53_7 : decode cJ9_floorMod_7cf53 7 = .ok (.ifCond .ge 11, 3) := by decide +kernel
theorem dJ9_floorMod_7cf53_10 : decode cJ9_floorMod_7cf53 10 = .ok (.iload_n 2, 1) := by decide +kernel
theorem dJ9_floorMod_7cf53_11 : decode cJ9_floorMod_7cf53 11 = .ok (.ifCond .eq 7, 3) := by decide +kernel
theorem dJ9_floorMod_7cf53_14 : decode cJ9_floorMod_7cf53 14 = .ok (.iload_n 2, 1) := by decide +kernel
theorem dJ9_floorMod_7cf53_15 : decode cJ9_floorMod_7cf53 15 = .ok (.iload_n 1, 1) := by decide +kernel
theorem dJ9_floorMod_7cf53_16 : decode cJ9_floorMod_7cf53 16 = .ok (.iadd, 1) := by decide +kernel
theorem dJ9_floorMod_7cf53_17 : decode cJ9_floorMod_7cf53 17 = .ok (.ireturn, 1) := by decide +kernel
theorem dJ9_floorMod_7cf53_18 : decode cJ9_floorMod_7cf53 18 = .ok (.iload_n 2, 1) := by decide +kernel
theorem dJ9_floorMod_7cf53_19 : decode cJ9_floorMod_7cf53 19 = .ok (.ireturn, 1) := by decide +kernel
set_option maxRecDepth 100000 in
set_option maxHeartbeats 4000000 in
theorem k_J9_floorMod_7cf53 (l : Launch) {D : va_G} {ar : Nat → ClassId} {B : Nat → Prop} {b n : Nat} {w0 : zcW}  (τ : Nat → Nat → Int) (x : Int) (r_x : inI x) : zt_M l D ar B b w0 n yJ9_floorMod_7cf53 cJ9_floorMod_7cf53 3 (some .int) 0 0 [.int (iz x), .int (iz 48)] τ (some (.int (iz (x % 48)))) (τ) := by
  refine zc_start (own := RJ9) (by decide +kernel) rfl (Nat.le_of_ble_eq_true rfl) ?_
  intro p e s m args below meth c C K hr hlk hnam
  refine hv_iload_n C 0 0 dJ9_floorMod_7cf53_0 rfl rfl ?_
  refine hv_iload_n C 1 1 dJ9_floorMod_7cf53_1 rfl rfl ?_
  refine hv_iremT C (by omega) (by omega) (by omega) dJ9_floorMod_7cf53_2 ?_
  have zt1 := tm9 x
  refine hv_istore_n C 2 [(2, .int (iz (Int.tmod x 48))), (0, .int (iz x)), (1, .int (iz 48))] dJ9_floorMod_7cf53_3 rfl (by decide) rfl ?_
  refine hv_iload_n C 0 1 dJ9_floorMod_7cf53_4 rfl rfl ?_
  refine hv_iload_n C 1 2 dJ9_floorMod_7cf53_5 rfl rfl ?_
  refine hv_ixorq C dJ9_floorMod_7cf53_6 ?_
  have zs9 := xo9_sign (a := x) (b := 48) (by omega) (by omega)
  have zi9 := xo9_in x 48
  refine hv_if_ge C 18 dJ9_floorMod_7cf53_7 (by decide) (by omega) (fun h7 => ?_) (fun h7 => ?_)
  · skip
    refine hv_iload_n C 2 0 dJ9_floorMod_7cf53_18 rfl rfl ?_
    exact zt_iret C hr hlk (by omega) rfl dJ9_floorMod_7cf53_19
  · skip
    refine hv_iload_n C 2 0 dJ9_floorMod_7cf53_10 rfl rfl ?_
    refine hv_if_eq C 18 dJ9_floorMod_7cf53_11 (by decide) (by omega) (fun h11 => ?_) (fun h11 => ?_)
    · skip
      refine hv_iload_n C 2 0 dJ9_floorMod_7cf53_18 rfl rfl ?_
      exact zt_iret C hr hlk (by omega) rfl dJ9_floorMod_7cf53_19
    · skip
      refine hv_iload_n C 2 0 dJ9_floorMod_7cf53_14 rfl rfl ?_
      refine hv_iload_n C 1 2 dJ9_floorMod_7cf53_15 rfl rfl ?_
      refine hv_iadd C dJ9_floorMod_7cf53_16 ?_
      exact zt_iret C hr hlk (by omega) rfl dJ9_floorMod_7cf53_17
theorem dJ9_floorDiv_7cf53_0 : decode cJ9_floorDiv_7cf53 0 = .ok (.iload_n 0, 1) := by decide +kernel
theorem dJ9_floorDiv_7cf53_1 : decode cJ9_floorDiv_7cf53 1 = .ok (.iload_n 1, 1) := by decide +kernel
theorem dJ9_floorDiv_7cf53_2 : decode cJ9_floorDiv_7cf53 2 = .ok (.idiv, 1) := by decide +kernel
theorem dJ9_floorDiv_7cf53_3 : decode cJ9_floorDiv_7cf53 3 = .ok (.istore_n 2, 1) := by decide +kernel
theorem dJ9_floorDiv_7cf53_4 : decode cJ9_floorDiv_7cf53 4 = .ok (.iload_n 0, 1) := by decide +kernel
theorem dJ9_floorDiv_7cf53_5 : decode cJ9_floorDiv_7cf53 5 = .ok (.iload_n 1, 1) := by decide +kernel
theorem dJ9_floorDiv_7cf53_6 : decode cJ9_floorDiv_7cf53 6 = .ok (.ixor, 1) := by decide +kernel
theorem dJ9_floorDiv_7cf53_7 : decode cJ9_floorDiv_7cf53 7 = .ok (.ifCond .ge 14, 3) := by decide +kernel
theorem dJ9_floorDiv_7cf53_10 : decode cJ9_floorDiv_7cf53 10 = .ok (.iload_n 2, 1) := by decide +kernel
theorem dJ9_floorDiv_7cf53_11 : decode cJ9_floorDiv_7cf53 11 = .ok (.iload_n 1, 1) := by decide +kernel
theorem dJ9_floorDiv_7cf53_12 : decode cJ9_floorDiv_7cf53 12 = .ok (.imul, 1) := by decide +kernel
theorem dJ9_floorDiv_7cf53_13 : decode cJ9_floorDiv_7cf53 13 = .ok (.iload_n 0, 1) := by decide +kernel
theorem dJ9_floorDiv_7cf53_14 : decode cJ9_floorDiv_7cf53 14 = .ok (.if_icmp .eq 7, 3) := by decide +kernel
theorem dJ9_floorDiv_7cf53_17 : decode cJ9_floorDiv_7cf53 17 = .ok (.iload_n 2, 1) := by decide +kernel
theorem dJ9_floorDiv_7cf53_18 : decode cJ9_floorDiv_7cf53 18 = .ok (.iconst 1, 1) := by decide +kernel
theorem dJ9_floorDiv_7cf53_19 : decode cJ9_floorDiv_7cf53 19 = .ok (.isub, 1) := by decide +kernel
theorem dJ9_floorDiv_7cf53_20 : decode cJ9_floorDiv_7cf53 20 = .ok (.ireturn, 1) := by decide +kernel
theorem dJ9_floorDiv_7cf53_21 : decode cJ9_floorDiv_7cf53 21 = .ok (.iload_n 2, 1) := by decide +kernel
theorem dJ9_floorDiv_7cf53_22 : decode cJ9_floorDiv_7cf53 22 = .ok (.ireturn, 1) := by decide +kernel
set_option maxRecDepth 100000 in
set_option maxHeartbeats 4000000 in
theorem k_J9_floorDiv_7cf53 (l : Launch) {D : va_G} {ar : Nat → ClassId} {B : Nat → Prop} {b n : Nat} {w0 : zcW}  (τ : Nat → Nat → Int) (x : Int) (r_x : inI x) : zt_M l D ar B b w0 n yJ9_floorDiv_7cf53 cJ9_floorDiv_7cf53 3 (some .int) 0 0 [.int (iz x), .int (iz 48)] τ (some (.int (iz (x / 48)))) (τ) := by
  refine zc_start (own := RJ9) (by decide +kernel) rfl (Nat.le_of_ble_eq_true rfl) ?_
  intro p e s m args below meth c C K hr hlk hnam
  refine hv_iload_n C 0 0 dJ9_floorDiv_7cf53_0 rfl rfl ?_
  refine hv_iload_n C 1 1 dJ9_floorDiv_7cf53_1 rfl rfl ?_
  refine hv_idivT C (by omega) (by omega) (by omega) dJ9_floorDiv_7cf53_2 ?_
  have zt1 := td9 x
  refine hv_istore_n C 2 [(2, .int (iz (Int.tdiv x 48))), (0, .int (iz x)), (1, .int (iz 48))] dJ9_floorDiv_7cf53_3 rfl (by decide) rfl ?_
  refine hv_iload_n C 0 1 dJ9_floorDiv_7cf53_4 rfl rfl ?_
  refine hv_iload_n C 1 2 dJ9_floorDiv_7cf53_5 rfl rfl ?_
  refine hv_ixorq C dJ9_floorDiv_7cf53_6 ?_
  have zs9 := xo9_sign (a := x) (b := 48) (by omega) (by omega)
  have zi9 := xo9_in x 48
  refine hv_if_ge C 21 dJ9_floorDiv_7cf53_7 (by decide) (by omega) (fun h7 => ?_) (fun h7 => ?_)
  · skip
    refine hv_iload_n C 2 0 dJ9_floorDiv_7cf53_21 rfl rfl ?_
    exact zt_iret C hr hlk (by omega) rfl dJ9_floorDiv_7cf53_22
  · skip
    refine hv_iload_n C 2 0 dJ9_floorDiv_7cf53_10 rfl rfl ?_
    refine hv_iload_n C 1 2 dJ9_floorDiv_7cf53_11 rfl rfl ?_
    refine hv_imul C dJ9_floorDiv_7cf53_12 ?_
    refine hv_iload_n C 0 1 dJ9_floorDiv_7cf53_13 rfl rfl ?_
    refine hv_icmp_eq C 21 dJ9_floorDiv_7cf53_14 (by decide) (by omega) (by omega) (fun h14 => ?_) (fun h14 => ?_)
    · skip
      refine hv_iload_n C 2 0 dJ9_floorDiv_7cf53_21 rfl rfl ?_
      exact zt_iret C hr hlk (by omega) rfl dJ9_floorDiv_7cf53_22
    · skip
      refine hv_iload_n C 2 0 dJ9_floorDiv_7cf53_17 rfl rfl ?_
      refine hv_iconst C dJ9_floorDiv_7cf53_18 ?_
      refine hv_isub C dJ9_floorDiv_7cf53_19 ?_
      exact zt_iret C hr hlk (by omega) rfl dJ9_floorDiv_7cf53_20
theorem dJ6_compare_7cf53_0 : decode cJ6_compare_7cf53 0 = .ok (.iload_n 0, 1) := by decide +kernel
theorem dJ6_compare_7cf53_1 : decode cJ6_compare_7cf53 1 = .ok (.iload_n 1, 1) := by decide +kernel
theorem dJ6_compare_7cf53_2 : decode cJ6_compare_7cf53 2 = .ok (.if_icmp .ge 7, 3) := by decide +kernel
theorem dJ6_compare_7cf53_5 : decode cJ6_compare_7cf53 5 = .ok (.iconst (-1), 1) := by decide +kernel
theorem dJ6_compare_7cf53_6 : decode cJ6_compare_7cf53 6 = .ok (.goto 13, 3) := by decide +kernel
theorem dJ6_compare_7cf53_9 : decode cJ6_compare_7cf53 9 = .ok (.iload_n 0, 1) := by decide +kernel
theorem dJ6_compare_7cf53_10 : decode cJ6_compare_7cf53 10 = .ok (.iload_n 1, 1) := by decide +kernel
theorem dJ6_compare_7cf53_11 : decode cJ6_compare_7cf53 11 = .ok (.if_icmp .ne 7, 3) := by decide +kernel
theorem dJ6_compare_7cf53_14 : decode cJ6_compare_7cf53 14 = .ok (.iconst 0, 1) := by decide +kernel
theorem dJ6_compare_7cf53_15 : decode cJ6_compare_7cf53 15 = .ok (.goto 4, 3) := by decide +kernel
theorem dJ6_compare_7cf53_18 : decode cJ6_compare_7cf53 18 = .ok (.iconst 1, 1) := by decide +kernel
theorem dJ6_compare_7cf53_19 : decode cJ6_compare_7cf53 19 = .ok (.ireturn, 1) := by decide +kernel
set_option maxRecDepth 100000 in
set_option maxHeartbeats 4000000 in
theorem k_J6_compare_7cf53 (l : Launch) {D : va_G} {ar : Nat → ClassId} {B : Nat → Prop} {b n : Nat} {w0 : zcW}  (τ : Nat → Nat → Int) (x : Int) (y : Int) (r_x : inI x) (r_y : inI y) : zt_M l D ar B b w0 n yJ6_compare_7cf53 cJ6_compare_7cf53 2 (some .int) 0 0 [.int (iz x), .int (iz y)] τ (some (.int (iz (if x < y then -1 else if x = y then 0 else 1)))) (τ) := by
  refine zc_start (own := RJ6) (by decide +kernel) rfl (Nat.le_of_ble_eq_true rfl) ?_
  intro p e s m args below meth c C K hr hlk hnam
  refine hv_iload_n C 0 0 dJ6_compare_7cf53_0 rfl rfl ?_
  refine hv_iload_n C 1 1 dJ6_compare_7cf53_1 rfl rfl ?_
  refine hv_icmp_ge C 9 dJ6_compare_7cf53_2 (by decide) (by omega) (by omega) (fun h2 => ?_) (fun h2 => ?_)
  · skip
    refine hv_iload_n C 0 0 dJ6_compare_7cf53_9 rfl rfl ?_
    refine hv_iload_n C 1 1 dJ6_compare_7cf53_10 rfl rfl ?_
    refine hv_icmp_ne C 18 dJ6_compare_7cf53_11 (by decide) (by omega) (by omega) (fun h11 => ?_) (fun h11 => ?_)
    · skip
      refine hv_iconst C dJ6_compare_7cf53_18 ?_
      exact zt_iret C hr hlk (by first | exact if_p (by omega) rfl | (refine if_n (by omega) ?_; first | exact if_p (by omega) rfl | exact if_n (by omega) rfl)) rfl dJ6_compare_7cf53_19
    · skip
      refine hv_iconst C dJ6_compare_7cf53_14 ?_
      refine hv_goto C 19 dJ6_compare_7cf53_15 (by decide) ?_
      exact zt_iret C hr hlk (by first | exact if_p (by omega) rfl | (refine if_n (by omega) ?_; first | exact if_p (by omega) rfl | exact if_n (by omega) rfl)) rfl dJ6_compare_7cf53_19
  · skip
    refine hv_iconst C dJ6_compare_7cf53_5 ?_
    refine hv_goto C 19 dJ6_compare_7cf53_6 (by decide) ?_
    exact zt_iret C hr hlk (by first | exact if_p (by omega) rfl | (refine if_n (by omega) ?_; first | exact if_p (by omega) rfl | exact if_n (by omega) rfl)) rfl dJ6_compare_7cf53_19
theorem dJ3_checkIndex_8e157_0 : decode cJ3_checkIndex_8e157 0 = .ok (.iload_n 0, 1) := by decide +kernel
theorem dJ3_checkIndex_8e157_1 : decode cJ3_checkIndex_8e157 1 = .ok (.ifCond .lt 8, 3) := by decide +kernel
theorem dJ3_checkIndex_8e157_4 : decode cJ3_checkIndex_8e157 4 = .ok (.iload_n 0, 1) := by decide +kernel
theorem dJ3_checkIndex_8e157_5 : decode cJ3_checkIndex_8e157 5 = .ok (.iload_n 1, 1) := by decide +kernel
theorem dJ3_checkIndex_8e157_6 : decode cJ3_checkIndex_8e157 6 = .ok (.if_icmp .lt 10, 3) := by decide +kernel
theorem dJ3_checkIndex_8e157_9 : decode cJ3_checkIndex_8e157 9 = .ok (.aload_n 2, 1) := by decide +kernel
theorem dJ3_checkIndex_8e157_10 : decode cJ3_checkIndex_8e157 10 = .ok (.iload_n 0, 1) := by decide +kernel
theorem dJ3_checkIndex_8e157_11 : decode cJ3_checkIndex_8e157 11 = .ok (.iload_n 1, 1) := by decide +kernel
theorem dJ3_checkIndex_8e157_12 : decode cJ3_checkIndex_8e157 12 = .ok (.invokestatic 95, 3) := by decide +kernel
theorem dJ3_checkIndex_8e157_15 : decode cJ3_checkIndex_8e157 15 = .ok (.athrow, 1) := by decide +kernel
theorem dJ3_checkIndex_8e157_16 : decode cJ3_checkIndex_8e157 16 = .ok (.iload_n 0, 1) := by decide +kernel
theorem dJ3_checkIndex_8e157_17 : decode cJ3_checkIndex_8e157 17 = .ok (.ireturn, 1) := by decide +kernel
set_option maxRecDepth 100000 in
set_option maxHeartbeats 4000000 in
theorem k_J3_checkIndex_8e157 (l : Launch) {D : va_G} {ar : Nat → ClassId} {B : Nat → Prop} {b n : Nat} {w0 : zcW}  (τ : Nat → Nat → Int) (i : Int) (z : Int) (r_i : inI i) (r_z : inI z) (hb : 0 ≤ i ∧ i < z) : zt_M l D ar B b w0 n yJ3_checkIndex_8e157 cJ3_checkIndex_8e157 3 (some .int) 0 0 [.int (iz i), .int (iz z), .null] τ (some (.int (iz i))) (τ) := by
  refine zc_start (own := RJ3) (by decide +kernel) rfl (Nat.le_of_ble_eq_true rfl) ?_
  intro p e s m args below meth c C K hr hlk hnam
  refine hv_iload_n C 0 0 dJ3_checkIndex_8e157_0 rfl rfl ?_
  refine hv_if_lt C 9 dJ3_checkIndex_8e157_1 (by decide) (by omega) (fun h1 => ?_) (fun h1 => ?_)
  · skip
    exfalso; omega
  · skip
    refine hv_iload_n C 0 0 dJ3_checkIndex_8e157_4 rfl rfl ?_
    refine hv_iload_n C 1 1 dJ3_checkIndex_8e157_5 rfl rfl ?_
    refine hv_icmp_lt C 16 dJ3_checkIndex_8e157_6 (by decide) (by omega) (by omega) (fun h6 => ?_) (fun h6 => ?_)
    · skip
      refine hv_iload_n C 0 0 dJ3_checkIndex_8e157_16 rfl rfl ?_
      exact zt_iret C hr hlk rfl rfl dJ3_checkIndex_8e157_17
    · skip
      exfalso; omega
theorem dJ15_checkIndex_7cf53_0 : decode cJ15_checkIndex_7cf53 0 = .ok (.iload_n 0, 1) := by decide +kernel
theorem dJ15_checkIndex_7cf53_1 : decode cJ15_checkIndex_7cf53 1 = .ok (.iload_n 1, 1) := by decide +kernel
theorem dJ15_checkIndex_7cf53_2 : decode cJ15_checkIndex_7cf53 2 = .ok (.aconst_null, 1) := by decide +kernel
theorem dJ15_checkIndex_7cf53_3 : decode cJ15_checkIndex_7cf53 3 = .ok (.invokestatic 105, 3) := by decide +kernel
theorem dJ15_checkIndex_7cf53_6 : decode cJ15_checkIndex_7cf53 6 = .ok (.ireturn, 1) := by decide +kernel
theorem ck_J15_105 : zcS RJ15 yJ3_checkIndex_8e157 cJ3_checkIndex_8e157 3 (some .int) 105 3 := ⟨hk_tq3 70 (by decide +kernel) (by decide +kernel), hk_tq3 68 (by decide +kernel) (by decide +kernel), hk_tq1 20 (by decide +kernel) (by decide +kernel), ⟨by decide, by decide, by decide +kernel⟩, hk_tq3 69 (by decide +kernel) (by decide +kernel)⟩
set_option maxRecDepth 100000 in
set_option maxHeartbeats 4000000 in
theorem k_J15_checkIndex_7cf53 (l : Launch) {D : va_G} {ar : Nat → ClassId} {B : Nat → Prop} {b n : Nat} {w0 : zcW}  (τ : Nat → Nat → Int) (i : Int) (z : Int) (r_i : inI i) (r_z : inI z) (hb : 0 ≤ i ∧ i < z) : zt_M l D ar B b w0 n yJ15_checkIndex_7cf53 cJ15_checkIndex_7cf53 2 (some .int) 1 22 [.int (iz i), .int (iz z)] τ (some (.int (iz i))) (τ) := by
  refine zc_start (own := RJ15) (by decide +kernel) rfl (Nat.le_of_ble_eq_true rfl) ?_
  intro p e s m args below meth c C K hr hlk hnam
  refine hv_iload_n C 0 0 dJ15_checkIndex_7cf53_0 rfl rfl ?_
  refine hv_iload_n C 1 1 dJ15_checkIndex_7cf53_1 rfl rfl ?_
  refine hv_aconst C dJ15_checkIndex_7cf53_2 ?_
  refine zt_callS [.int (iz i), .int (iz z), .null] [] C K (k_J3_checkIndex_8e157 l  τ i z (by omega) (by omega) (by omega)) ck_J15_105 (by decide) ⟨Nat.zero_le _, Nat.zero_le _⟩ rfl (Nat.le_of_ble_eq_true rfl) dJ15_checkIndex_7cf53_3 ?_
  refine hv_as (i) rfl ?_
  refine hv_nm (fun x1 ex1 => ?_)
  exact zt_iret C hr hlk (by omega) rfl dJ15_checkIndex_7cf53_6
theorem dJx4a65c_size_8abf5_0 : decode cJx4a65c_size_8abf5 0 = .ok (.aload_n 0, 1) := by decide +kernel
theorem dJx4a65c_size_8abf5_1 : decode cJx4a65c_size_8abf5 1 = .ok (.getfield 48, 3) := by decide +kernel
theorem dJx4a65c_size_8abf5_4 : decode cJx4a65c_size_8abf5 4 = .ok (.ireturn, 1) := by decide +kernel
theorem fl_Jx4a65c_48 : Cond.fieldLink RJx4a65c 48 "java/util/ArrayList" (TJx4a65c 2).2.1 (TJx4a65c 2).2.2.1 ∈ hk_tb := hk_tq1 56 (by decide +kernel) (by decide +kernel)
set_option maxRecDepth 100000 in
set_option maxHeartbeats 4000000 in
theorem k_Jx4a65c_size_8abf5 (l : Launch) {D : va_G} {ar : Nat → ClassId} {B : Nat → Prop} {b n : Nat} {w0 : zcW} (j : Nat) (τ : Nat → Nat → Int)  (hj : gcell ar b (τ j) j = some (.inr (0, [.int (iz (τ j 0)), va_rf (rfv (τ j 1)), .int (iz (τ j 2))]))) : zt_M l D ar B b w0 n yJx4a65c_size_8abf5 cJx4a65c_size_8abf5 1 (some .int) 0 0 [.ref (b + j)] τ (some (.int (iz (τ j 2)))) (τ) := by
  refine zc_start (own := RJx4a65c) (by decide +kernel) rfl (Nat.le_of_ble_eq_true rfl) ?_
  intro p e s m args below meth c C K hr hlk hnam
  refine hv_aload_n C 0 0 dJx4a65c_size_8abf5_0 rfl rfl ?_
  refine zc_get C K (v := .int (iz (τ j 2))) 2 rfl hu_0 (by decide) (cw_at j hj) rfl fl_Jx4a65c_48 rfl dJx4a65c_size_8abf5_1 ?_
  exact zt_iret C hr hlk rfl rfl dJx4a65c_size_8abf5_4
theorem dJx4a65c_elementData_915e3_0 : decode cJx4a65c_elementData_915e3 0 = .ok (.aload_n 0, 1) := by decide +kernel
theorem dJx4a65c_elementData_915e3_1 : decode cJx4a65c_elementData_915e3 1 = .ok (.getfield 9, 3) := by decide +kernel
theorem dJx4a65c_elementData_915e3_4 : decode cJx4a65c_elementData_915e3 4 = .ok (.iload_n 1, 1) := by decide +kernel
theorem dJx4a65c_elementData_915e3_5 : decode cJx4a65c_elementData_915e3 5 = .ok (.aaload, 1) := by decide +kernel
theorem dJx4a65c_elementData_915e3_6 : decode cJx4a65c_elementData_915e3 6 = .ok (.areturn, 1) := by decide +kernel
theorem fl_Jx4a65c_9 : Cond.fieldLink RJx4a65c 9 "java/util/ArrayList" (TJx4a65c 1).2.1 (TJx4a65c 1).2.2.1 ∈ hk_tb := hk_tq1 55 (by decide +kernel) (by decide +kernel)
set_option maxRecDepth 100000 in
set_option maxHeartbeats 4000000 in
theorem k_Jx4a65c_elementData_915e3 (l : Launch) {D : va_G} {ar : Nat → ClassId} {B : Nat → Prop} {b n : Nat} {w0 : zcW} (j p9 : Nat) (τ : Nat → Nat → Int) (i : Nat) (hj : gcell ar b (τ j) j = some (.inr (0, [.int (iz (τ j 0)), va_rf (rfv (τ j 1)), .int (iz (τ j 2))]))) (hit : it9q ar b w0 (τ j) i p9) : zt_M l D ar B b w0 n yJx4a65c_elementData_915e3 cJx4a65c_elementData_915e3 2 (some (.object "java/lang/Object")) 0 0 [.ref (b + j), .int (iz ((i : Nat) : Int))] τ (some (.ref p9)) (τ) := by
  refine zc_start (own := RJx4a65c) (by decide +kernel) rfl (Nat.le_of_ble_eq_true rfl) ?_
  intro p e s m args below meth c C K hr hlk hnam
  obtain ⟨e9, N9, f9, he1, he2, he3, he4, he5, he6, he7, he8⟩ := hit
  refine hv_aload_n C 0 0 dJx4a65c_elementData_915e3_0 rfl rfl ?_
  refine zc_get C K (v := va_rf (rfv (τ j 1))) 1 rfl hu_0 (by decide) (cw_at j hj) rfl fl_Jx4a65c_9 rfl dJx4a65c_elementData_915e3_1 ?_
  refine hv_asv (.ref e9) (by rw [he1, rfv_n]; rfl) ?_
  refine hv_iload_n C 1 1 dJx4a65c_elementData_915e3_4 rfl rfl ?_
  refine zc_aald C K (f := f9) 2 i ((cw_nf he2).trans he3) rfl (by omega) (by omega) (by omega) dJx4a65c_elementData_915e3_5 ?_
  refine hv_asv (.ref p9) (by rw [he6]; rfl) ?_
  exact zc_aret C hr (Or.inl ⟨_, rfl⟩) hlk ⟨rfl, congrArg (fun x9 => cw ar b x9 w0) rfl, rfl⟩ dJx4a65c_elementData_915e3_6
theorem dJx4a65c_get_915e3_0 : decode cJx4a65c_get_915e3 0 = .ok (.iload_n 1, 1) := by decide +kernel
theorem dJx4a65c_get_915e3_1 : decode cJx4a65c_get_915e3 1 = .ok (.aload_n 0, 1) := by decide +kernel
theorem dJx4a65c_get_915e3_2 : decode cJx4a65c_get_915e3 2 = .ok (.getfield 48, 3) := by decide +kernel
theorem dJx4a65c_get_915e3_5 : decode cJx4a65c_get_915e3 5 = .ok (.invokestatic 118, 3) := by decide +kernel
theorem dJx4a65c_get_915e3_8 : decode cJx4a65c_get_915e3 8 = .ok (.pop, 1) := by decide +kernel
theorem dJx4a65c_get_915e3_9 : decode cJx4a65c_get_915e3 9 = .ok (.aload_n 0, 1) := by decide +kernel
theorem dJx4a65c_get_915e3_10 : decode cJx4a65c_get_915e3 10 = .ok (.iload_n 1, 1) := by decide +kernel
theorem dJx4a65c_get_915e3_11 : decode cJx4a65c_get_915e3 11 = .ok (.invokevirtual 123, 3) := by decide +kernel
theorem dJx4a65c_get_915e3_14 : decode cJx4a65c_get_915e3 14 = .ok (.areturn, 1) := by decide +kernel
theorem ck_Jx4a65c_118 : zcS RJx4a65c yJ15_checkIndex_7cf53 cJ15_checkIndex_7cf53 2 (some .int) 118 2 := ⟨hk_tq3 67 (by decide +kernel) (by decide +kernel), hk_tq3 65 (by decide +kernel) (by decide +kernel), hk_tq1 19 (by decide +kernel) (by decide +kernel), ⟨by decide, by decide, by decide +kernel⟩, hk_tq3 66 (by decide +kernel) (by decide +kernel)⟩
theorem ck_Jx4a65c_123 : zcV RJx4a65c RJx4a65c yJx4a65c_elementData_915e3 cJx4a65c_elementData_915e3 2 (some (.object "java/lang/Object")) 123 1 := ⟨hk_tq3 74 (by decide +kernel) (by decide +kernel), hk_tq3 71 (by decide +kernel) (by decide +kernel), hk_tq1 5 (by decide +kernel) (by decide +kernel), ⟨by decide, by decide, by decide +kernel⟩, hk_tq3 72 (by decide +kernel) (by decide +kernel), hk_tq3 73 (by decide +kernel) (by decide +kernel)⟩
set_option maxRecDepth 100000 in
set_option maxHeartbeats 4000000 in
theorem k_Jx4a65c_get_915e3 (l : Launch) {D : va_G} {ar : Nat → ClassId} {B : Nat → Prop} {b n : Nat} {w0 : zcW} (j p9 : Nat) (τ : Nat → Nat → Int) (i : Nat) (hj : gcell ar b (τ j) j = some (.inr (0, [.int (iz (τ j 0)), va_rf (rfv (τ j 1)), .int (iz (τ j 2))]))) (hit : it9q ar b w0 (τ j) i p9) : zt_M l D ar B b w0 n yJx4a65c_get_915e3 cJx4a65c_get_915e3 2 (some (.object "java/lang/Object")) 2 43 [.ref (b + j), .int (iz ((i : Nat) : Int))] τ (some (.ref p9)) (τ) := by
  refine zc_start (own := RJx4a65c) (by decide +kernel) rfl (Nat.le_of_ble_eq_true rfl) ?_
  intro p e s m args below meth c C K hr hlk hnam
  have hit2 := hit
  obtain ⟨e9, N9, f9, he1, he2, he3, he4, he5, he6, he7, he8⟩ := hit
  refine hv_iload_n C 1 1 dJx4a65c_get_915e3_0 rfl rfl ?_
  refine hv_aload_n C 0 0 dJx4a65c_get_915e3_1 rfl rfl ?_
  refine zc_get C K (v := .int (iz (τ j 2))) 2 rfl hu_0 (by decide) (cw_at j hj) rfl fl_Jx4a65c_48 rfl dJx4a65c_get_915e3_2 ?_
  refine zt_callS [.int (iz ((i : Nat) : Int)), .int (iz (τ j 2))] [] C K (k_J15_checkIndex_7cf53 l  τ ((i : Nat) : Int) (τ j 2) (by omega) (by omega) (by omega)) ck_Jx4a65c_118 (by decide) ⟨Nat.zero_le _, Nat.zero_le _⟩ rfl (Nat.le_of_ble_eq_true rfl) dJx4a65c_get_915e3_5 ?_
  refine hv_as (((i : Nat) : Int)) rfl ?_
  refine hv_pop C dJx4a65c_get_915e3_8 rfl ?_
  refine hv_aload_n C 0 0 dJx4a65c_get_915e3_9 rfl rfl ?_
  refine hv_iload_n C 1 1 dJx4a65c_get_915e3_10 rfl rfl ?_
  refine zt_callV [.int (iz ((i : Nat) : Int))] [] C K (cw_at j hj) rfl (k_Jx4a65c_elementData_915e3 l j p9 τ i hj hit2) ck_Jx4a65c_123 (by decide) ⟨Nat.zero_le _, Nat.zero_le _⟩ rfl (Nat.le_of_ble_eq_true rfl) dJx4a65c_get_915e3_11 ?_
  exact zc_aret C hr (Or.inl ⟨_, rfl⟩) hlk ⟨rfl, congrArg (fun x9 => cw ar b x9 w0) rfl, rfl⟩ dJx4a65c_get_915e3_14
