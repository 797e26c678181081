/-- what the lines of the contracts hold -/
def lj9 (A : Nat → Int) : Prop := ∀ w : Nat, w < 3 → ∀ k : Nat, (k : Int) < A (14 + w) → (20 ≤ A (800 + 320 * w + 20 * k + 17) ∧ A (800 + 320 * w + 20 * k + 17) ≤ 22) ∧ (0 ≤ A (800 + 320 * w + 20 * k + 18) ∧ A (800 + 320 * w + 20 * k + 18) ≤ 9999) ∧ ∀ t : Nat, (t : Int) < A (800 + 320 * w + 20 * k) → (1 ≤ A (800 + 320 * w + 20 * k + 1 + 4 * t + 1) ∧ A (800 + 320 * w + 20 * k + 1 + 4 * t + 1) ≤ 9) ∧ (60 ≤ A (800 + 320 * w + 20 * k + 1 + 4 * t + 2) ∧ A (800 + 320 * w + 20 * k + 1 + 4 * t + 2) ≤ 62) ∧ (0 ≤ A (800 + 320 * w + 20 * k + 1 + 4 * t + 3) ∧ A (800 + 320 * w + 20 * k + 1 + 4 * t + 3) ≤ 9999)
theorem tst_c {A : Nat → Int} {q s h : Nat} {i v n c sg : Int} (hv : ask A (A (q + 1)) s h i = v) (hn : A (q + 3) = n) (hs : 60 ≤ A (q + 2) ∧ A (q + 2) ≤ 62) (hc : c = if v < n then -1 else if v = n then 0 else 1) (hsg : sg = sgn9 (A (q + 2))) : tst A q s h i = (decide (c = sg) != decide (A q = 1)) := by
  unfold tst
  rw [hv, hn]
  congr 1
  unfold sgn9 at hsg
  rcases (by omega : A (q + 2) = 60 ∨ A (q + 2) = 61 ∨ A (q + 2) = 62) with e | e | e
  · rw [if_pos e]; rw [if_pos e] at hsg
    apply decide_eq_decide.mpr
    split at hc
    · omega
    · split at hc <;> omega
  · rw [if_neg (by omega), if_neg (by omega)]; rw [if_neg (by omega), if_neg (by omega)] at hsg
    apply decide_eq_decide.mpr
    split at hc
    · omega
    · split at hc <;> omega
  · rw [if_neg (by omega), if_pos e]; rw [if_neg (by omega), if_pos e] at hsg
    apply decide_eq_decide.mpr
    split at hc
    · omega
    · split at hc <;> omega
theorem lf_n {A : Nat → Int} {s h : Nat} {i : Int} {pay : Bool} {w k f : Nat} (hf : 0 < f) (e : ((decide (A (800 + 320 * w + 20 * k + 17) = 22) == pay) && hd A (800 + 320 * w + 20 * k) s h i (A (800 + 320 * w + 20 * k)).toNat) = false) : lf A s h i pay w f k = lf A s h i pay w (f - 1) (k + 1) := by
  obtain ⟨g, rfl⟩ : ∃ q, f = q + 1 := ⟨f - 1, by omega⟩
  conv => lhs; unfold lf
  rw [e]; rfl
theorem lf_y {A : Nat → Int} {s h : Nat} {i : Int} {pay : Bool} {w k f : Nat} (hf : 0 < f) (e : ((decide (A (800 + 320 * w + 20 * k + 17) = 22) == pay) && hd A (800 + 320 * w + 20 * k) s h i (A (800 + 320 * w + 20 * k)).toNat) = true) : lf A s h i pay w f k = (k : Int) := by
  obtain ⟨g, rfl⟩ : ∃ q, f = q + 1 := ⟨f - 1, by omega⟩
  unfold lf
  rw [e]; rfl

theorem dX1_rowOf_0 : decode cX1_rowOf 0 = .ok (.iload_n 0, 1) := by decide +kernel
theorem dX1_rowOf_1 : decode cX1_rowOf 1 = .ok (.iconst 4, 1) := by decide +kernel
theorem dX1_rowOf_2 : decode cX1_rowOf 2 = .ok (.imul, 1) := by decide +kernel
theorem dX1_rowOf_3 : decode cX1_rowOf 3 = .ok (.iload_n 1, 1) := by decide +kernel
theorem dX1_rowOf_4 : decode cX1_rowOf 4 = .ok (.iadd, 1) := by decide +kernel
theorem dX1_rowOf_5 : decode cX1_rowOf 5 = .ok (.iconst 4, 1) := by decide +kernel
theorem dX1_rowOf_6 : decode cX1_rowOf 6 = .ok (.imul, 1) := by decide +kernel
theorem dX1_rowOf_7 : decode cX1_rowOf 7 = .ok (.ireturn, 1) := by decide +kernel
set_option maxRecDepth 100000 in
set_option maxHeartbeats 4000000 in
theorem k_X1_rowOf (l : Launch) {D : va_G} {ar : Nat → ClassId} {B : Nat → Prop} {b n : Nat} {w0 : zcW}  (τ : Nat → Nat → Int) (line : Nat) (t : Nat)  : zt_M l D ar B b w0 n yX1_rowOf cX1_rowOf 2 (some .int) 0 0 [.int (iz ((line : Nat) : Int)), .int (iz ((t : Nat) : Int))] τ (some (.int (iz ((16 * line + 4 * t : Nat) : Int)))) (τ) := by
  refine zc_start (own := RX1) (by decide +kernel) rfl (Nat.le_of_ble_eq_true rfl) ?_
  intro p e s m args below meth c C K hr hlk hnam
  refine hv_iload_n C 0 0 dX1_rowOf_0 rfl rfl ?_
  refine hv_iconst C dX1_rowOf_1 ?_
  refine hv_imul C dX1_rowOf_2 ?_
  refine hv_iload_n C 1 1 dX1_rowOf_3 rfl rfl ?_
  refine hv_iadd C dX1_rowOf_4 ?_
  refine hv_iconst C dX1_rowOf_5 ?_
  refine hv_imul C dX1_rowOf_6 ?_
  exact zt_iret C hr hlk (by omega) rfl dX1_rowOf_7
theorem dX1_holds_0 : decode cX1_holds 0 = .ok (.iconst 0, 1) := by decide +kernel
theorem dX1_holds_1 : decode cX1_holds 1 = .ok (.istore_n 3, 1) := by decide +kernel
theorem dX1_holds_2 : decode cX1_holds 2 = .ok (.iload_n 3, 1) := by decide +kernel
theorem dX1_holds_3 : decode cX1_holds 3 = .ok (.aload_n 0, 1) := by decide +kernel
theorem dX1_holds_4 : decode cX1_holds 4 = .ok (.getfield 15, 3) := by decide +kernel
theorem dX1_holds_7 : decode cX1_holds 7 = .ok (.iload_n 1, 1) := by decide +kernel
theorem dX1_holds_8 : decode cX1_holds 8 = .ok (.iaload, 1) := by decide +kernel
theorem dX1_holds_9 : decode cX1_holds 9 = .ok (.if_icmp .ge 85, 3) := by decide +kernel
theorem dX1_holds_12 : decode cX1_holds 12 = .ok (.iload_n 1, 1) := by decide +kernel
theorem dX1_holds_13 : decode cX1_holds 13 = .ok (.iload_n 3, 1) := by decide +kernel
theorem dX1_holds_14 : decode cX1_holds 14 = .ok (.invokestatic 25, 3) := by decide +kernel
theorem dX1_holds_17 : decode cX1_holds 17 = .ok (.istore 4, 2) := by decide +kernel
theorem dX1_holds_19 : decode cX1_holds 19 = .ok (.aload_n 0, 1) := by decide +kernel
theorem dX1_holds_20 : decode cX1_holds 20 = .ok (.getfield 18, 3) := by decide +kernel
theorem dX1_holds_23 : decode cX1_holds 23 = .ok (.iload 4, 2) := by decide +kernel
theorem dX1_holds_25 : decode cX1_holds 25 = .ok (.iaload, 1) := by decide +kernel
theorem dX1_holds_26 : decode cX1_holds 26 = .ok (.iconst 1, 1) := by decide +kernel
theorem dX1_holds_27 : decode cX1_holds 27 = .ok (.if_icmp .ne 7, 3) := by decide +kernel
theorem dX1_holds_30 : decode cX1_holds 30 = .ok (.iconst 1, 1) := by decide +kernel
theorem dX1_holds_31 : decode cX1_holds 31 = .ok (.goto 4, 3) := by decide +kernel
theorem dX1_holds_34 : decode cX1_holds 34 = .ok (.iconst 0, 1) := by decide +kernel
theorem dX1_holds_35 : decode cX1_holds 35 = .ok (.istore 5, 2) := by decide +kernel
theorem dX1_holds_37 : decode cX1_holds 37 = .ok (.aload_n 2, 1) := by decide +kernel
theorem dX1_holds_38 : decode cX1_holds 38 = .ok (.aload_n 0, 1) := by decide +kernel
theorem dX1_holds_39 : decode cX1_holds 39 = .ok (.getfield 18, 3) := by decide +kernel
theorem dX1_holds_42 : decode cX1_holds 42 = .ok (.iload 4, 2) := by decide +kernel
theorem dX1_holds_44 : decode cX1_holds 44 = .ok (.iconst 1, 1) := by decide +kernel
theorem dX1_holds_45 : decode cX1_holds 45 = .ok (.iadd, 1) := by decide +kernel
theorem dX1_holds_46 : decode cX1_holds 46 = .ok (.iaload, 1) := by decide +kernel
theorem dX1_holds_47 : decode cX1_holds 47 = .ok (.iaload, 1) := by decide +kernel
theorem dX1_holds_48 : decode cX1_holds 48 = .ok (.aload_n 0, 1) := by decide +kernel
theorem dX1_holds_49 : decode cX1_holds 49 = .ok (.getfield 18, 3) := by decide +kernel
theorem dX1_holds_52 : decode cX1_holds 52 = .ok (.iload 4, 2) := by decide +kernel
theorem dX1_holds_54 : decode cX1_holds 54 = .ok (.iconst 3, 1) := by decide +kernel
theorem dX1_holds_55 : decode cX1_holds 55 = .ok (.iadd, 1) := by decide +kernel
theorem dX1_holds_56 : decode cX1_holds 56 = .ok (.iaload, 1) := by decide +kernel
theorem dX1_holds_57 : decode cX1_holds 57 = .ok (.invokestatic 42, 3) := by decide +kernel
theorem dX1_holds_60 : decode cX1_holds 60 = .ok (.aload_n 0, 1) := by decide +kernel
theorem dX1_holds_61 : decode cX1_holds 61 = .ok (.getfield 18, 3) := by decide +kernel
theorem dX1_holds_64 : decode cX1_holds 64 = .ok (.iload 4, 2) := by decide +kernel
theorem dX1_holds_66 : decode cX1_holds 66 = .ok (.iconst 2, 1) := by decide +kernel
theorem dX1_holds_67 : decode cX1_holds 67 = .ok (.iadd, 1) := by decide +kernel
theorem dX1_holds_68 : decode cX1_holds 68 = .ok (.iaload, 1) := by decide +kernel
theorem dX1_holds_69 : decode cX1_holds 69 = .ok (.if_icmp .ne 7, 3) := by decide +kernel
theorem dX1_holds_72 : decode cX1_holds 72 = .ok (.iconst 1, 1) := by decide +kernel
theorem dX1_holds_73 : decode cX1_holds 73 = .ok (.goto 4, 3) := by decide +kernel
theorem dX1_holds_76 : decode cX1_holds 76 = .ok (.iconst 0, 1) := by decide +kernel
theorem dX1_holds_77 : decode cX1_holds 77 = .ok (.istore 6, 2) := by decide +kernel
theorem dX1_holds_79 : decode cX1_holds 79 = .ok (.iload 6, 2) := by decide +kernel
theorem dX1_holds_81 : decode cX1_holds 81 = .ok (.iload 5, 2) := by decide +kernel
theorem dX1_holds_83 : decode cX1_holds 83 = .ok (.if_icmp .ne 5, 3) := by decide +kernel
theorem dX1_holds_86 : decode cX1_holds 86 = .ok (.iconst 0, 1) := by decide +kernel
theorem dX1_holds_87 : decode cX1_holds 87 = .ok (.ireturn, 1) := by decide +kernel
theorem dX1_holds_88 : decode cX1_holds 88 = .ok (.iinc 3 1, 3) := by decide +kernel
theorem dX1_holds_91 : decode cX1_holds 91 = .ok (.goto (-89), 3) := by decide +kernel
theorem dX1_holds_94 : decode cX1_holds 94 = .ok (.iconst 1, 1) := by decide +kernel
theorem dX1_holds_95 : decode cX1_holds 95 = .ok (.ireturn, 1) := by decide +kernel
theorem fl_X1_15 : Cond.fieldLink RX1 15 "HookUps$Contract" (TX1 2).2.1 (TX1 2).2.2.1 ∈ hk_tb := hk_tq1 111 (by decide +kernel) (by decide +kernel)
theorem ck_X1_25 : zcS RX1 yX1_rowOf cX1_rowOf 2 (some .int) 25 2 := ⟨hk_tq4 47 (by decide +kernel) (by decide +kernel), hk_tq4 45 (by decide +kernel) (by decide +kernel), hk_tq1 7 (by decide +kernel) (by decide +kernel), ⟨by decide, by decide, by decide +kernel⟩, hk_tq4 46 (by decide +kernel) (by decide +kernel)⟩
theorem fl_X1_18 : Cond.fieldLink RX1 18 "HookUps$Contract" (TX1 3).2.1 (TX1 3).2.2.1 ∈ hk_tb := hk_tq1 112 (by decide +kernel) (by decide +kernel)
theorem ck_X1_42 : zcS RX1 yJ6_compare_7cf53 cJ6_compare_7cf53 2 (some .int) 42 2 := ⟨hk_tq4 92 (by decide +kernel) (by decide +kernel), hk_tq4 90 (by decide +kernel) (by decide +kernel), hk_tq1 26 (by decide +kernel) (by decide +kernel), ⟨by decide, by decide, by decide +kernel⟩, hk_tq4 91 (by decide +kernel) (by decide +kernel)⟩
set_option maxRecDepth 100000 in
set_option maxHeartbeats 4000000 in
theorem k_X1_holds (l : Launch) {D : va_G} {ar : Nat → ClassId} {B : Nat → Prop} {b n : Nat} {w0 : zcW} (A : Nat → Int) (k9 p9 s9 hn9 : Nat) (i8 : Int) (τ : Nat → Nat → Int) (line : Nat) (hA : ∀ i, inI (A i)) (hC : rlC ar b w0 A k9 p9) (hl : li A) (hlj : lj9 A) (hk9 : k9 < 3) (hF : ∀ q : Nat, q < 9 → τ 18 q = ask A ((q : Int) + 1) s9 hn9 i8 ∧ 0 ≤ τ 18 q ∧ τ 18 q ≤ 300) (hx : (line : Int) < A (14 + k9)) : zt_M l D ar B b w0 n yX1_holds cX1_holds 7 (some .boolean) 1 21 [.ref p9, .int (iz ((line : Nat) : Int)), .ref (b + 18)] τ (some (.int (iz (xb (hd A (800 + 320 * k9 + 20 * line) s9 hn9 i8 (A (800 + 320 * k9 + 20 * line)).toNat))))) (τ) := by
  refine zc_start (own := RX1) (by decide +kernel) rfl (Nat.le_of_ble_eq_true rfl) ?_
  intro p e s m args below meth c C K hr hlk hnam
  obtain ⟨pd, pc9, pt, fd, fc, ft, ho, hd9, hc9, ht9, hx9⟩ := hC
  have hlq := (hl k9 hk9).2 line hx
  have hll := (hl k9 hk9).1
  have hxl := hx9 line hx
  have hjl := hlj k9 hk9 line hx
  refine hv_iconst C dX1_holds_0 ?_
  refine hv_istore_n C 3 [(3, .int (iz 0)), (0, .ref p9), (1, .int (iz ((line : Nat) : Int))), (2, .ref (b + 18))] dX1_holds_1 rfl (by decide) rfl ?_
  have L2 : ∀ (f : Nat) (t : Nat), (A (800 + 320 * k9 + 20 * line)).toNat - t < f → ((t : Int) ≤ A (800 + 320 * k9 + 20 * line)) → (hd A (800 + 320 * k9 + 20 * line) s9 hn9 i8 t = true) → hvV p l e { frames := 1, cells := 0, slots := 0, locals := 21 } s m args below meth c 7 B 0 0 (MQ below (zc_Q D B (fun r' w' n' => r' = (some (.int (iz (xb (hd A (800 + 320 * k9 + 20 * line) s9 hn9 i8 (A (800 + 320 * k9 + 20 * line)).toNat))))) ∧ w' = cw ar b (τ) w0 ∧ n' = n)) args s 0 0 B) (zc_I D B (cw ar b τ w0) n s.heap) 2 [(0, .ref p9), (1, .int (iz ((line : Nat) : Int))), (2, .ref (b + 18)), (3, .int (iz ((t : Nat) : Int)))] [] := by
    intro f
    induction f with
    | zero => intro _ hm; exact absurd hm (Nat.not_lt_zero _)
    | succ f ih2 =>
      intro t hm2 ht hT
      refine hv_iload_n C 3 3 dX1_holds_2 rfl rfl ?_
      refine hv_aload_n C 0 0 dX1_holds_3 rfl rfl ?_
      refine zc_get C K (v := .ref pc9) 2 rfl hu_2 (by decide) (cw_ob ho) rfl fl_X1_15 rfl dX1_holds_4 ?_
      refine hv_iload_n C 1 1 dX1_holds_7 rfl rfl ?_
      refine zc_iald C K (f := fc) line (cw_ia hc9) (by omega) (by omega) (by decide) dX1_holds_8 ?_
      refine hv_nm (fun x1 ex1 => ?_)
      have rx1 : inI x1 := by rw [ex1]; exact (by rw [hxl.2.1]; exact hA _)
      have zxc := hxl.2.1
      refine hv_icmp_ge C 94 dX1_holds_9 (by decide) (by omega) (by omega) (fun h9 => ?_) (fun h9 => ?_)
      · skip
        have zht : hd A (800 + 320 * k9 + 20 * line) s9 hn9 i8 (A (800 + 320 * k9 + 20 * line)).toNat = true := by rw [show (A (800 + 320 * k9 + 20 * line)).toNat = t by omega]; exact hT
        refine hv_iconst C dX1_holds_94 ?_
        exact zt_zret C hr hlk ((xb_t (by first | exact zhf | exact zht)).symm) rfl dX1_holds_95
      · skip
        have hxt := hxl.2.2 t (by omega)
        have zt0 : ft (16 * line + 4 * t) = A ((800 + 320 * k9 + 20 * line) + 1 + 4 * t) := hxt.1
        have zt1 : ft (16 * line + 4 * t + 1) = A ((800 + 320 * k9 + 20 * line) + 1 + 4 * t + 1) - 1 := hxt.2.1
        have zt2 : ft (16 * line + 4 * t + 2) = sgn9 (A ((800 + 320 * k9 + 20 * line) + 1 + 4 * t + 2)) := hxt.2.2.1
        have zt3 : ft (16 * line + 4 * t + 3) = A ((800 + 320 * k9 + 20 * line) + 1 + 4 * t + 3) := hxt.2.2.2
        have hjt := hjl.2.2 t (by omega)
        have hq0 := hA ((800 + 320 * k9 + 20 * line) + 1 + 4 * t)
        clear hxt hxl hx9
        refine hv_iload_n C 1 1 dX1_holds_12 rfl rfl ?_
        refine hv_iload_n C 3 3 dX1_holds_13 rfl rfl ?_
        refine zt_callS [.int (iz ((line : Nat) : Int)), .int (iz ((t : Nat) : Int))] [] C K (k_X1_rowOf l  τ line t ) ck_X1_25 (by decide) ⟨Nat.zero_le _, Nat.zero_le _⟩ rfl (Nat.le_of_ble_eq_true rfl) dX1_holds_14 ?_
        refine hv_as (((16 * line + 4 * t : Nat) : Int)) rfl ?_
        refine hv_istore C 4 [(4, .int (iz ((16 * line + 4 * t : Nat) : Int))), (0, .ref p9), (1, .int (iz ((line : Nat) : Int))), (2, .ref (b + 18)), (3, .int (iz ((t : Nat) : Int)))] dX1_holds_17 (by decide) rfl ?_
        refine hv_aload_n C 0 1 dX1_holds_19 rfl rfl ?_
        refine zc_get C K (v := .ref pt) 3 rfl hu_2 (by decide) (cw_ob ho) rfl fl_X1_18 rfl dX1_holds_20 ?_
        refine hv_iload C 4 0 dX1_holds_23 rfl ?_
        refine zc_iald C K (f := ft) (16 * line + 4 * t) (cw_ia ht9) (by omega) (by omega) (by decide) dX1_holds_25 ?_
        refine hv_nm (fun x2 ex2 => ?_)
        have rx2 : inI x2 := by rw [ex2]; exact (by rw [zt0]; exact hA _)
        refine hv_iconst C dX1_holds_26 ?_
        refine hv_icmp_ne C 34 dX1_holds_27 (by decide) (by omega) (by omega) (fun h27 => ?_) (fun h27 => ?_)
        · skip
          refine hv_iconst C dX1_holds_34 ?_
          refine hv_istore C 5 [(5, .int (iz 0)), (4, .int (iz ((16 * line + 4 * t : Nat) : Int))), (0, .ref p9), (1, .int (iz ((line : Nat) : Int))), (2, .ref (b + 18)), (3, .int (iz ((t : Nat) : Int)))] dX1_holds_35 (by decide) rfl ?_
          refine hv_aload_n C 2 4 dX1_holds_37 rfl rfl ?_
          refine hv_aload_n C 0 2 dX1_holds_38 rfl rfl ?_
          refine zc_get C K (v := .ref pt) 3 rfl hu_2 (by decide) (cw_ob ho) rfl fl_X1_18 rfl dX1_holds_39 ?_
          refine hv_iload C 4 1 dX1_holds_42 rfl ?_
          refine hv_iconst C dX1_holds_44 ?_
          refine hv_iadd C dX1_holds_45 ?_
          refine zc_iald C K (f := ft) ((16 * line + 4 * t) + 1) (cw_ia ht9) (by omega) (by omega) (by decide) dX1_holds_46 ?_
          refine hv_nm (fun x3 ex3 => ?_)
          have rx3 : inI x3 := by rw [ex3]; exact (by rw [zt1]; have z := hA ((800 + 320 * k9 + 20 * line) + 1 + 4 * t + 1); omega)
          obtain ⟨wN, rfl⟩ : ∃ n9 : Nat, x3 = (n9 : Int) := ⟨(x3).toNat, by omega⟩
          have zfw := hF wN (by omega)
          refine zc_iald C K (f := (τ 18)) wN (cw_at 18 rfl) (by omega) (by omega) (by decide) dX1_holds_47 ?_
          refine hv_as (τ 18 wN) rfl ?_
          refine hv_aload_n C 0 2 dX1_holds_48 rfl rfl ?_
          refine zc_get C K (v := .ref pt) 3 rfl hu_2 (by decide) (cw_ob ho) rfl fl_X1_18 rfl dX1_holds_49 ?_
          refine hv_iload C 4 1 dX1_holds_52 rfl ?_
          refine hv_iconst C dX1_holds_54 ?_
          refine hv_iadd C dX1_holds_55 ?_
          refine zc_iald C K (f := ft) ((16 * line + 4 * t) + 3) (cw_ia ht9) (by omega) (by omega) (by decide) dX1_holds_56 ?_
          refine zt_callS [.int (iz (τ 18 wN)), .int (iz (ft ((16 * line + 4 * t) + 3)))] [] C K (k_J6_compare_7cf53 l  τ (τ 18 wN) (ft ((16 * line + 4 * t) + 3)) (by omega) (by omega)) ck_X1_42 (by decide) ⟨Nat.zero_le _, Nat.zero_le _⟩ rfl (Nat.le_of_ble_eq_true rfl) dX1_holds_57 ?_
          refine hv_as ((if (τ 18 wN) < (ft ((16 * line + 4 * t) + 3)) then -1 else if (τ 18 wN) = (ft ((16 * line + 4 * t) + 3)) then 0 else 1)) rfl ?_
          refine hv_nm (fun x4 ex4 => ?_)
          have rx4 : inI x4 := by rw [ex4]; exact (by split; (decide); (split <;> decide))
          have zsg : -1 ≤ sgn9 (A ((800 + 320 * k9 + 20 * line) + 1 + 4 * t + 2)) ∧ sgn9 (A ((800 + 320 * k9 + 20 * line) + 1 + 4 * t + 2)) ≤ 1 := by unfold sgn9; split <;> (try split) <;> decide
          refine hv_aload_n C 0 2 dX1_holds_60 rfl rfl ?_
          refine zc_get C K (v := .ref pt) 3 rfl hu_2 (by decide) (cw_ob ho) rfl fl_X1_18 rfl dX1_holds_61 ?_
          refine hv_iload C 4 1 dX1_holds_64 rfl ?_
          refine hv_iconst C dX1_holds_66 ?_
          refine hv_iadd C dX1_holds_67 ?_
          refine zc_iald C K (f := ft) ((16 * line + 4 * t) + 2) (cw_ia ht9) (by omega) (by omega) (by decide) dX1_holds_68 ?_
          refine hv_nm (fun x5 ex5 => ?_)
          have rx5 : inI x5 := by rw [ex5]; exact (by rw [zt2]; omega)
          have ztc : tst A ((800 + 320 * k9 + 20 * line) + 1 + 4 * t) s9 hn9 i8 = (decide (x4 = x5) != decide (A ((800 + 320 * k9 + 20 * line) + 1 + 4 * t) = 1)) := tst_c (v := τ 18 wN) (n := ft (16 * line + 4 * t + 3)) (by rw [show A ((800 + 320 * k9 + 20 * line) + 1 + 4 * t + 1) = (wN : Int) + 1 by omega]; exact (hF wN (by omega)).1.symm) zt3.symm (by omega) ex4 (by rw [ex5]; exact zt2)
          refine hv_icmp_ne C 76 dX1_holds_69 (by decide) (by omega) (by omega) (fun h69 => ?_) (fun h69 => ?_)
          · skip
            refine hv_iconst C dX1_holds_76 ?_
            refine hv_istore C 6 [(6, .int (iz 0)), (5, .int (iz 0)), (4, .int (iz ((16 * line + 4 * t : Nat) : Int))), (0, .ref p9), (1, .int (iz ((line : Nat) : Int))), (2, .ref (b + 18)), (3, .int (iz ((t : Nat) : Int)))] dX1_holds_77 (by decide) rfl ?_
            refine hv_iload C 6 0 dX1_holds_79 rfl ?_
            refine hv_iload C 5 1 dX1_holds_81 rfl ?_
            refine hv_icmp_ne C 88 dX1_holds_83 (by decide) (by decide) (by decide) (fun h => absurd h (by decide)) (fun _ => ?_)
            have zhf : hd A (800 + 320 * k9 + 20 * line) s9 hn9 i8 (A (800 + 320 * k9 + 20 * line)).toNat = false := hd_f (t := t + 1) _ (by rw [hd, hT, show tst A ((800 + 320 * k9 + 20 * line) + 1 + 4 * t) s9 hn9 i8 = false by (rw [ztc]; first | (rw [decide_eq_true (show _ = _ by omega), decide_eq_true (show A ((800 + 320 * k9 + 20 * line) + 1 + 4 * t) = 1 by omega)]; rfl) | (rw [decide_eq_true (show _ = _ by omega), decide_eq_false (show ¬ A ((800 + 320 * k9 + 20 * line) + 1 + 4 * t) = 1 by omega)]; rfl) | (rw [decide_eq_false (show ¬ _ = _ by omega), decide_eq_true (show A ((800 + 320 * k9 + 20 * line) + 1 + 4 * t) = 1 by omega)]; rfl) | (rw [decide_eq_false (show ¬ _ = _ by omega), decide_eq_false (show ¬ A ((800 + 320 * k9 + 20 * line) + 1 + 4 * t) = 1 by omega)]; rfl))]; rfl) (by omega)
            refine hv_iconst C dX1_holds_86 ?_
            exact zt_zret C hr hlk ((xb_f (by first | exact zhf | exact zht)).symm) rfl dX1_holds_87
          · skip
            refine hv_iconst C dX1_holds_72 ?_
            refine hv_goto C 77 dX1_holds_73 (by decide) ?_
            refine hv_istore C 6 [(6, .int (iz 1)), (5, .int (iz 0)), (4, .int (iz ((16 * line + 4 * t : Nat) : Int))), (0, .ref p9), (1, .int (iz ((line : Nat) : Int))), (2, .ref (b + 18)), (3, .int (iz ((t : Nat) : Int)))] dX1_holds_77 (by decide) rfl ?_
            refine hv_iload C 6 0 dX1_holds_79 rfl ?_
            refine hv_iload C 5 1 dX1_holds_81 rfl ?_
            refine hv_icmp_ne C 88 dX1_holds_83 (by decide) (by decide) (by decide) (fun _ => ?_) (fun h => absurd h (by decide))
            refine hv_iinc C 3 6 [(3, .int (iz (((t : Nat) : Int) + 1))), (6, .int (iz 1)), (5, .int (iz 0)), (4, .int (iz ((16 * line + 4 * t : Nat) : Int))), (0, .ref p9), (1, .int (iz ((line : Nat) : Int))), (2, .ref (b + 18))] dX1_holds_88 rfl (by decide) rfl ?_
            refine hv_goto C 2 dX1_holds_91 (by decide) ?_
            refine hv_loc [4, 5, 6, 0] [(0, .ref p9), (1, .int (iz ((line : Nat) : Int))), (2, .ref (b + 18)), (3, .int (iz (((t : Nat) : Int) + 1)))] rfl ?_
            exact ih2 (t + 1) (by omega) (by omega) (by rw [hd, hT, show tst A ((800 + 320 * k9 + 20 * line) + 1 + 4 * t) s9 hn9 i8 = true by (rw [ztc]; first | (rw [decide_eq_true (show _ = _ by omega), decide_eq_true (show A ((800 + 320 * k9 + 20 * line) + 1 + 4 * t) = 1 by omega)]; rfl) | (rw [decide_eq_true (show _ = _ by omega), decide_eq_false (show ¬ A ((800 + 320 * k9 + 20 * line) + 1 + 4 * t) = 1 by omega)]; rfl) | (rw [decide_eq_false (show ¬ _ = _ by omega), decide_eq_true (show A ((800 + 320 * k9 + 20 * line) + 1 + 4 * t) = 1 by omega)]; rfl) | (rw [decide_eq_false (show ¬ _ = _ by omega), decide_eq_false (show ¬ A ((800 + 320 * k9 + 20 * line) + 1 + 4 * t) = 1 by omega)]; rfl))]; rfl)
        · skip
          refine hv_iconst C dX1_holds_30 ?_
          refine hv_goto C 35 dX1_holds_31 (by decide) ?_
          refine hv_istore C 5 [(5, .int (iz 1)), (4, .int (iz ((16 * line + 4 * t : Nat) : Int))), (0, .ref p9), (1, .int (iz ((line : Nat) : Int))), (2, .ref (b + 18)), (3, .int (iz ((t : Nat) : Int)))] dX1_holds_35 (by decide) rfl ?_
          refine hv_aload_n C 2 4 dX1_holds_37 rfl rfl ?_
          refine hv_aload_n C 0 2 dX1_holds_38 rfl rfl ?_
          refine zc_get C K (v := .ref pt) 3 rfl hu_2 (by decide) (cw_ob ho) rfl fl_X1_18 rfl dX1_holds_39 ?_
          refine hv_iload C 4 1 dX1_holds_42 rfl ?_
          refine hv_iconst C dX1_holds_44 ?_
          refine hv_iadd C dX1_holds_45 ?_
          refine zc_iald C K (f := ft) ((16 * line + 4 * t) + 1) (cw_ia ht9) (by omega) (by omega) (by decide) dX1_holds_46 ?_
          refine hv_nm (fun x6 ex6 => ?_)
          have rx6 : inI x6 := by rw [ex6]; exact (by rw [zt1]; have z := hA ((800 + 320 * k9 + 20 * line) + 1 + 4 * t + 1); omega)
          obtain ⟨wN, rfl⟩ : ∃ n9 : Nat, x6 = (n9 : Int) := ⟨(x6).toNat, by omega⟩
          have zfw := hF wN (by omega)
          refine zc_iald C K (f := (τ 18)) wN (cw_at 18 rfl) (by omega) (by omega) (by decide) dX1_holds_47 ?_
          refine hv_as (τ 18 wN) rfl ?_
          refine hv_aload_n C 0 2 dX1_holds_48 rfl rfl ?_
          refine zc_get C K (v := .ref pt) 3 rfl hu_2 (by decide) (cw_ob ho) rfl fl_X1_18 rfl dX1_holds_49 ?_
          refine hv_iload C 4 1 dX1_holds_52 rfl ?_
          refine hv_iconst C dX1_holds_54 ?_
          refine hv_iadd C dX1_holds_55 ?_
          refine zc_iald C K (f := ft) ((16 * line + 4 * t) + 3) (cw_ia ht9) (by omega) (by omega) (by decide) dX1_holds_56 ?_
          refine zt_callS [.int (iz (τ 18 wN)), .int (iz (ft ((16 * line + 4 * t) + 3)))] [] C K (k_J6_compare_7cf53 l  τ (τ 18 wN) (ft ((16 * line + 4 * t) + 3)) (by omega) (by omega)) ck_X1_42 (by decide) ⟨Nat.zero_le _, Nat.zero_le _⟩ rfl (Nat.le_of_ble_eq_true rfl) dX1_holds_57 ?_
          refine hv_as ((if (τ 18 wN) < (ft ((16 * line + 4 * t) + 3)) then -1 else if (τ 18 wN) = (ft ((16 * line + 4 * t) + 3)) then 0 else 1)) rfl ?_
          refine hv_nm (fun x7 ex7 => ?_)
          have rx7 : inI x7 := by rw [ex7]; exact (by split; (decide); (split <;> decide))
          have zsg : -1 ≤ sgn9 (A ((800 + 320 * k9 + 20 * line) + 1 + 4 * t + 2)) ∧ sgn9 (A ((800 + 320 * k9 + 20 * line) + 1 + 4 * t + 2)) ≤ 1 := by unfold sgn9; split <;> (try split) <;> decide
          refine hv_aload_n C 0 2 dX1_holds_60 rfl rfl ?_
          refine zc_get C K (v := .ref pt) 3 rfl hu_2 (by decide) (cw_ob ho) rfl fl_X1_18 rfl dX1_holds_61 ?_
          refine hv_iload C 4 1 dX1_holds_64 rfl ?_
          refine hv_iconst C dX1_holds_66 ?_
          refine hv_iadd C dX1_holds_67 ?_
          refine zc_iald C K (f := ft) ((16 * line + 4 * t) + 2) (cw_ia ht9) (by omega) (by omega) (by decide) dX1_holds_68 ?_
          refine hv_nm (fun x8 ex8 => ?_)
          have rx8 : inI x8 := by rw [ex8]; exact (by rw [zt2]; omega)
          have ztc : tst A ((800 + 320 * k9 + 20 * line) + 1 + 4 * t) s9 hn9 i8 = (decide (x7 = x8) != decide (A ((800 + 320 * k9 + 20 * line) + 1 + 4 * t) = 1)) := tst_c (v := τ 18 wN) (n := ft (16 * line + 4 * t + 3)) (by rw [show A ((800 + 320 * k9 + 20 * line) + 1 + 4 * t + 1) = (wN : Int) + 1 by omega]; exact (hF wN (by omega)).1.symm) zt3.symm (by omega) ex7 (by rw [ex8]; exact zt2)
          refine hv_icmp_ne C 76 dX1_holds_69 (by decide) (by omega) (by omega) (fun h69 => ?_) (fun h69 => ?_)
          · skip
            refine hv_iconst C dX1_holds_76 ?_
            refine hv_istore C 6 [(6, .int (iz 0)), (5, .int (iz 1)), (4, .int (iz ((16 * line + 4 * t : Nat) : Int))), (0, .ref p9), (1, .int (iz ((line : Nat) : Int))), (2, .ref (b + 18)), (3, .int (iz ((t : Nat) : Int)))] dX1_holds_77 (by decide) rfl ?_
            refine hv_iload C 6 0 dX1_holds_79 rfl ?_
            refine hv_iload C 5 1 dX1_holds_81 rfl ?_
            refine hv_icmp_ne C 88 dX1_holds_83 (by decide) (by decide) (by decide) (fun _ => ?_) (fun h => absurd h (by decide))
            refine hv_iinc C 3 6 [(3, .int (iz (((t : Nat) : Int) + 1))), (6, .int (iz 0)), (5, .int (iz 1)), (4, .int (iz ((16 * line + 4 * t : Nat) : Int))), (0, .ref p9), (1, .int (iz ((line : Nat) : Int))), (2, .ref (b + 18))] dX1_holds_88 rfl (by decide) rfl ?_
            refine hv_goto C 2 dX1_holds_91 (by decide) ?_
            refine hv_loc [4, 5, 6, 0] [(0, .ref p9), (1, .int (iz ((line : Nat) : Int))), (2, .ref (b + 18)), (3, .int (iz (((t : Nat) : Int) + 1)))] rfl ?_
            exact ih2 (t + 1) (by omega) (by omega) (by rw [hd, hT, show tst A ((800 + 320 * k9 + 20 * line) + 1 + 4 * t) s9 hn9 i8 = true by (rw [ztc]; first | (rw [decide_eq_true (show _ = _ by omega), decide_eq_true (show A ((800 + 320 * k9 + 20 * line) + 1 + 4 * t) = 1 by omega)]; rfl) | (rw [decide_eq_true (show _ = _ by omega), decide_eq_false (show ¬ A ((800 + 320 * k9 + 20 * line) + 1 + 4 * t) = 1 by omega)]; rfl) | (rw [decide_eq_false (show ¬ _ = _ by omega), decide_eq_true (show A ((800 + 320 * k9 + 20 * line) + 1 + 4 * t) = 1 by omega)]; rfl) | (rw [decide_eq_false (show ¬ _ = _ by omega), decide_eq_false (show ¬ A ((800 + 320 * k9 + 20 * line) + 1 + 4 * t) = 1 by omega)]; rfl))]; rfl)
          · skip
            refine hv_iconst C dX1_holds_72 ?_
            refine hv_goto C 77 dX1_holds_73 (by decide) ?_
            refine hv_istore C 6 [(6, .int (iz 1)), (5, .int (iz 1)), (4, .int (iz ((16 * line + 4 * t : Nat) : Int))), (0, .ref p9), (1, .int (iz ((line : Nat) : Int))), (2, .ref (b + 18)), (3, .int (iz ((t : Nat) : Int)))] dX1_holds_77 (by decide) rfl ?_
            refine hv_iload C 6 0 dX1_holds_79 rfl ?_
            refine hv_iload C 5 1 dX1_holds_81 rfl ?_
            refine hv_icmp_ne C 88 dX1_holds_83 (by decide) (by decide) (by decide) (fun h => absurd h (by decide)) (fun _ => ?_)
            have zhf : hd A (800 + 320 * k9 + 20 * line) s9 hn9 i8 (A (800 + 320 * k9 + 20 * line)).toNat = false := hd_f (t := t + 1) _ (by rw [hd, hT, show tst A ((800 + 320 * k9 + 20 * line) + 1 + 4 * t) s9 hn9 i8 = false by (rw [ztc]; first | (rw [decide_eq_true (show _ = _ by omega), decide_eq_true (show A ((800 + 320 * k9 + 20 * line) + 1 + 4 * t) = 1 by omega)]; rfl) | (rw [decide_eq_true (show _ = _ by omega), decide_eq_false (show ¬ A ((800 + 320 * k9 + 20 * line) + 1 + 4 * t) = 1 by omega)]; rfl) | (rw [decide_eq_false (show ¬ _ = _ by omega), decide_eq_true (show A ((800 + 320 * k9 + 20 * line) + 1 + 4 * t) = 1 by omega)]; rfl) | (rw [decide_eq_false (show ¬ _ = _ by omega), decide_eq_false (show ¬ A ((800 + 320 * k9 + 20 * line) + 1 + 4 * t) = 1 by omega)]; rfl))]; rfl) (by omega)
            refine hv_iconst C dX1_holds_86 ?_
            exact zt_zret C hr hlk ((xb_f (by first | exact zhf | exact zht)).symm) rfl dX1_holds_87
  refine hv_loc [1, 2, 3, 0] [(0, .ref p9), (1, .int (iz ((line : Nat) : Int))), (2, .ref (b + 18)), (3, .int (iz 0))] rfl ?_
  exact L2 _ 0 (Nat.lt_succ_self _) (by omega) rfl
theorem dX1_firstLine_0 : decode cX1_firstLine 0 = .ok (.iconst 0, 1) := by decide +kernel
theorem dX1_firstLine_1 : decode cX1_firstLine 1 = .ok (.istore_n 3, 1) := by decide +kernel
theorem dX1_firstLine_2 : decode cX1_firstLine 2 = .ok (.iload_n 3, 1) := by decide +kernel
theorem dX1_firstLine_3 : decode cX1_firstLine 3 = .ok (.aload_n 0, 1) := by decide +kernel
theorem dX1_firstLine_4 : decode cX1_firstLine 4 = .ok (.getfield 21, 3) := by decide +kernel
theorem dX1_firstLine_7 : decode cX1_firstLine 7 = .ok (.if_icmp .ge 42, 3) := by decide +kernel
theorem dX1_firstLine_10 : decode cX1_firstLine 10 = .ok (.aload_n 0, 1) := by decide +kernel
theorem dX1_firstLine_11 : decode cX1_firstLine 11 = .ok (.getfield 9, 3) := by decide +kernel
theorem dX1_firstLine_14 : decode cX1_firstLine 14 = .ok (.iload_n 3, 1) := by decide +kernel
theorem dX1_firstLine_15 : decode cX1_firstLine 15 = .ok (.iaload, 1) := by decide +kernel
theorem dX1_firstLine_16 : decode cX1_firstLine 16 = .ok (.ifCond .lt 7, 3) := by decide +kernel
theorem dX1_firstLine_19 : decode cX1_firstLine 19 = .ok (.iconst 1, 1) := by decide +kernel
theorem dX1_firstLine_20 : decode cX1_firstLine 20 = .ok (.goto 4, 3) := by decide +kernel
theorem dX1_firstLine_23 : decode cX1_firstLine 23 = .ok (.iconst 0, 1) := by decide +kernel
theorem dX1_firstLine_24 : decode cX1_firstLine 24 = .ok (.istore 4, 2) := by decide +kernel
theorem dX1_firstLine_26 : decode cX1_firstLine 26 = .ok (.iload 4, 2) := by decide +kernel
theorem dX1_firstLine_28 : decode cX1_firstLine 28 = .ok (.iload_n 2, 1) := by decide +kernel
theorem dX1_firstLine_29 : decode cX1_firstLine 29 = .ok (.if_icmp .ne 14, 3) := by decide +kernel
theorem dX1_firstLine_32 : decode cX1_firstLine 32 = .ok (.aload_n 0, 1) := by decide +kernel
theorem dX1_firstLine_33 : decode cX1_firstLine 33 = .ok (.iload_n 3, 1) := by decide +kernel
theorem dX1_firstLine_34 : decode cX1_firstLine 34 = .ok (.aload_n 1, 1) := by decide +kernel
theorem dX1_firstLine_35 : decode cX1_firstLine 35 = .ok (.invokevirtual 29, 3) := by decide +kernel
theorem dX1_firstLine_38 : decode cX1_firstLine 38 = .ok (.ifCond .eq 5, 3) := by decide +kernel
theorem dX1_firstLine_41 : decode cX1_firstLine 41 = .ok (.iload_n 3, 1) := by decide +kernel
theorem dX1_firstLine_42 : decode cX1_firstLine 42 = .ok (.ireturn, 1) := by decide +kernel
theorem dX1_firstLine_43 : decode cX1_firstLine 43 = .ok (.iinc 3 1, 3) := by decide +kernel
theorem dX1_firstLine_46 : decode cX1_firstLine 46 = .ok (.goto (-44), 3) := by decide +kernel
theorem dX1_firstLine_49 : decode cX1_firstLine 49 = .ok (.iconst (-1), 1) := by decide +kernel
theorem dX1_firstLine_50 : decode cX1_firstLine 50 = .ok (.ireturn, 1) := by decide +kernel
theorem fl_X1_21 : Cond.fieldLink RX1 21 "HookUps$Contract" (TX1 0).2.1 (TX1 0).2.2.1 ∈ hk_tb := hk_tq1 108 (by decide +kernel) (by decide +kernel)
theorem fl_X1_9 : Cond.fieldLink RX1 9 "HookUps$Contract" (TX1 1).2.1 (TX1 1).2.2.1 ∈ hk_tb := hk_tq1 110 (by decide +kernel) (by decide +kernel)
theorem ck_X1_29 : zcV RX1 RX1 yX1_holds cX1_holds 7 (some .boolean) 29 2 := ⟨hk_tq4 89 (by decide +kernel) (by decide +kernel), hk_tq4 86 (by decide +kernel) (by decide +kernel), hk_tq1 7 (by decide +kernel) (by decide +kernel), ⟨by decide, by decide, by decide +kernel⟩, hk_tq4 88 (by decide +kernel) (by decide +kernel), hk_s 13 (by decide +kernel) (by decide +kernel)⟩
set_option maxRecDepth 100000 in
set_option maxHeartbeats 4000000 in
theorem k_X1_firstLine (l : Launch) {D : va_G} {ar : Nat → ClassId} {B : Nat → Prop} {b n : Nat} {w0 : zcW} (A : Nat → Int) (k9 p9 s9 hn9 : Nat) (i8 : Int) (τ : Nat → Nat → Int) (pay : Bool) (hA : ∀ i, inI (A i)) (hC : rlC ar b w0 A k9 p9) (hl : li A) (hlj : lj9 A) (hk9 : k9 < 3) (hF : ∀ q : Nat, q < 9 → τ 18 q = ask A ((q : Int) + 1) s9 hn9 i8 ∧ 0 ≤ τ 18 q ∧ τ 18 q ≤ 300) : zt_M l D ar B b w0 n yX1_firstLine cX1_firstLine 5 (some .int) 2 47 [.ref p9, .ref (b + 18), .int (iz (xb (pay)))] τ (some (.int (iz (lf A s9 hn9 i8 pay k9 (A (14 + k9)).toNat 0)))) (τ) := by
  refine zc_start (own := RX1) (by decide +kernel) rfl (Nat.le_of_ble_eq_true rfl) ?_
  intro p e s m args below meth c C K hr hlk hnam
  have hC2 := hC
  obtain ⟨pd, pc9, pt, fd, fc, ft, ho, hd9, hc9, ht9, hx9⟩ := hC
  have hll := (hl k9 hk9).1
  refine hv_iconst C dX1_firstLine_0 ?_
  refine hv_istore_n C 3 [(3, .int (iz 0)), (0, .ref p9), (1, .ref (b + 18)), (2, .int (iz (xb (pay))))] dX1_firstLine_1 rfl (by decide) rfl ?_
  have L2 : ∀ (f : Nat) (line : Nat), (A (14 + k9)).toNat - line < f → ((line : Int) ≤ A (14 + k9)) → (lf A s9 hn9 i8 pay k9 ((A (14 + k9)).toNat - line) line = lf A s9 hn9 i8 pay k9 (A (14 + k9)).toNat 0) → hvV p l e { frames := 2, cells := 0, slots := 0, locals := 47 } s m args below meth c 5 B 0 0 (MQ below (zc_Q D B (fun r' w' n' => r' = (some (.int (iz (lf A s9 hn9 i8 pay k9 (A (14 + k9)).toNat 0)))) ∧ w' = cw ar b (τ) w0 ∧ n' = n)) args s 0 0 B) (zc_I D B (cw ar b τ w0) n s.heap) 2 [(0, .ref p9), (1, .ref (b + 18)), (2, .int (iz (xb (pay)))), (3, .int (iz ((line : Nat) : Int)))] [] := by
    intro f
    induction f with
    | zero => intro _ hm; exact absurd hm (Nat.not_lt_zero _)
    | succ f ih2 =>
      intro line hm2 hln hr9
      refine hv_iload_n C 3 3 dX1_firstLine_2 rfl rfl ?_
      refine hv_aload_n C 0 0 dX1_firstLine_3 rfl rfl ?_
      refine zc_get C K (v := .int (iz (A (14 + k9)))) 0 rfl hu_2 (by decide) (cw_ob ho) rfl fl_X1_21 rfl dX1_firstLine_4 ?_
      refine hv_nm (fun x1 ex1 => ?_)
      have rx1 : inI x1 := by rw [ex1]; exact (hA _)
      refine hv_icmp_ge C 49 dX1_firstLine_7 (by decide) (by omega) (by omega) (fun h7 => ?_) (fun h7 => ?_)
      · skip
        refine hv_iconst C dX1_firstLine_49 ?_
        exact zt_iret C hr hlk (by first | (rw [← hr9, lf_y (by omega) zcy]; done) | (rw [← hr9, show (A (14 + k9)).toNat - line = 0 by omega]; rfl)) rfl dX1_firstLine_50
      · skip
        have hxl := hx9 line (by omega)
        have hjl := hlj k9 hk9 line (by omega)
        have zdd : (0 ≤ fd line ↔ A ((800 + 320 * k9 + 20 * line) + 17) = 22) ∧ inI (fd line) := by rw [hxl.1]; unfold deed; have z := hjl.2.1; split; (omega); (split <;> omega)
        refine hv_aload_n C 0 0 dX1_firstLine_10 rfl rfl ?_
        refine zc_get C K (v := .ref pd) 1 rfl hu_2 (by decide) (cw_ob ho) rfl fl_X1_9 rfl dX1_firstLine_11 ?_
        refine hv_iload_n C 3 3 dX1_firstLine_14 rfl rfl ?_
        refine zc_iald C K (f := fd) line (cw_ia hd9) (by omega) (by omega) (by decide) dX1_firstLine_15 ?_
        refine hv_nm (fun x2 ex2 => ?_)
        have rx2 : inI x2 := by rw [ex2]; exact zdd.2
        refine hv_if_lt C 23 dX1_firstLine_16 (by decide) (by omega) (fun h16 => ?_) (fun h16 => ?_)
        · skip
          refine hv_iconst C dX1_firstLine_23 ?_
          refine hv_istore C 4 [(4, .int (iz 0)), (0, .ref p9), (1, .ref (b + 18)), (2, .int (iz (xb (pay)))), (3, .int (iz ((line : Nat) : Int)))] dX1_firstLine_24 (by decide) rfl ?_
          have zpp : decide (A ((800 + 320 * k9 + 20 * line) + 17) = 22) = false := decide_eq_false (by omega)
          refine hv_iload C 4 0 dX1_firstLine_26 rfl ?_
          refine hv_iload_n C 2 3 dX1_firstLine_28 rfl rfl ?_
          have qy29 := xb_in (pay)
          refine hv_icmp_ne C 43 dX1_firstLine_29 (by decide) (by omega) (by omega) (fun h29 => ?_) (fun h29 => ?_)
          · skip
            have zcf : ((decide (A ((800 + 320 * k9 + 20 * line) + 17) = 22) == pay) && hd A (800 + 320 * k9 + 20 * line) s9 hn9 i8 (A (800 + 320 * k9 + 20 * line)).toNat) = false := by first | (rw [h38, Bool.and_false]; done) | (rw [show (decide (A ((800 + 320 * k9 + 20 * line) + 17) = 22) == pay) = false by (rw [zpp]; cases pay <;> first | rfl | (exfalso; revert h29; decide)), Bool.false_and])
            refine hv_iinc C 3 4 [(3, .int (iz (((line : Nat) : Int) + 1))), (4, .int (iz 0)), (0, .ref p9), (1, .ref (b + 18)), (2, .int (iz (xb (pay))))] dX1_firstLine_43 rfl (by decide) rfl ?_
            refine hv_goto C 2 dX1_firstLine_46 (by decide) ?_
            refine hv_loc [2, 3, 4, 0] [(0, .ref p9), (1, .ref (b + 18)), (2, .int (iz (xb (pay)))), (3, .int (iz (((line : Nat) : Int) + 1)))] rfl ?_
            exact ih2 (line + 1) (by omega) (by omega) (by rw [← hr9, lf_n (by omega) zcf]; rfl)
          · skip
            refine hv_aload_n C 0 1 dX1_firstLine_32 rfl rfl ?_
            refine hv_iload_n C 3 4 dX1_firstLine_33 rfl rfl ?_
            refine hv_aload_n C 1 2 dX1_firstLine_34 rfl rfl ?_
            refine zt_callV [.int (iz ((line : Nat) : Int)), .ref (b + 18)] [] C K (cw_ob ho) rfl (k_X1_holds l A k9 p9 s9 hn9 i8 τ line hA hC2 hl hlj (by omega) hF (by omega)) ck_X1_29 (by decide) ⟨Nat.zero_le _, Nat.zero_le _⟩ rfl (Nat.le_of_ble_eq_true rfl) dX1_firstLine_35 ?_
            refine hv_as (xb (hd A (800 + 320 * k9 + 20 * line) s9 hn9 i8 (A (800 + 320 * k9 + 20 * line)).toNat)) rfl ?_
            refine hv_bif_eq C 43 dX1_firstLine_38 (by decide)  (fun h38 => ?_) (fun h38 => ?_)
            · skip
              have zcf : ((decide (A ((800 + 320 * k9 + 20 * line) + 17) = 22) == pay) && hd A (800 + 320 * k9 + 20 * line) s9 hn9 i8 (A (800 + 320 * k9 + 20 * line)).toNat) = false := by first | (rw [h38, Bool.and_false]; done) | (rw [show (decide (A ((800 + 320 * k9 + 20 * line) + 17) = 22) == pay) = false by (rw [zpp]; cases pay <;> first | rfl | (exfalso; revert h29; decide)), Bool.false_and])
              refine hv_iinc C 3 4 [(3, .int (iz (((line : Nat) : Int) + 1))), (4, .int (iz 0)), (0, .ref p9), (1, .ref (b + 18)), (2, .int (iz (xb (pay))))] dX1_firstLine_43 rfl (by decide) rfl ?_
              refine hv_goto C 2 dX1_firstLine_46 (by decide) ?_
              refine hv_loc [2, 3, 4, 0] [(0, .ref p9), (1, .ref (b + 18)), (2, .int (iz (xb (pay)))), (3, .int (iz (((line : Nat) : Int) + 1)))] rfl ?_
              exact ih2 (line + 1) (by omega) (by omega) (by rw [← hr9, lf_n (by omega) zcf]; rfl)
            · skip
              have zcy : ((decide (A ((800 + 320 * k9 + 20 * line) + 17) = 22) == pay) && hd A (800 + 320 * k9 + 20 * line) s9 hn9 i8 (A (800 + 320 * k9 + 20 * line)).toNat) = true := by rw [h38, Bool.and_true, zpp]; cases pay <;> first | rfl | (exfalso; revert h29; decide)
              refine hv_iload_n C 3 4 dX1_firstLine_41 rfl rfl ?_
              exact zt_iret C hr hlk (by first | (rw [← hr9, lf_y (by omega) zcy]; done) | (rw [← hr9, show (A (14 + k9)).toNat - line = 0 by omega]; rfl)) rfl dX1_firstLine_42
        · skip
          refine hv_iconst C dX1_firstLine_19 ?_
          refine hv_goto C 24 dX1_firstLine_20 (by decide) ?_
          refine hv_istore C 4 [(4, .int (iz 1)), (0, .ref p9), (1, .ref (b + 18)), (2, .int (iz (xb (pay)))), (3, .int (iz ((line : Nat) : Int)))] dX1_firstLine_24 (by decide) rfl ?_
          have zpp : decide (A ((800 + 320 * k9 + 20 * line) + 17) = 22) = true := decide_eq_true (by omega)
          refine hv_iload C 4 0 dX1_firstLine_26 rfl ?_
          refine hv_iload_n C 2 3 dX1_firstLine_28 rfl rfl ?_
          have qy29 := xb_in (pay)
          refine hv_icmp_ne C 43 dX1_firstLine_29 (by decide) (by omega) (by omega) (fun h29 => ?_) (fun h29 => ?_)
          · skip
            have zcf : ((decide (A ((800 + 320 * k9 + 20 * line) + 17) = 22) == pay) && hd A (800 + 320 * k9 + 20 * line) s9 hn9 i8 (A (800 + 320 * k9 + 20 * line)).toNat) = false := by first | (rw [h38, Bool.and_false]; done) | (rw [show (decide (A ((800 + 320 * k9 + 20 * line) + 17) = 22) == pay) = false by (rw [zpp]; cases pay <;> first | rfl | (exfalso; revert h29; decide)), Bool.false_and])
            refine hv_iinc C 3 4 [(3, .int (iz (((line : Nat) : Int) + 1))), (4, .int (iz 1)), (0, .ref p9), (1, .ref (b + 18)), (2, .int (iz (xb (pay))))] dX1_firstLine_43 rfl (by decide) rfl ?_
            refine hv_goto C 2 dX1_firstLine_46 (by decide) ?_
            refine hv_loc [2, 3, 4, 0] [(0, .ref p9), (1, .ref (b + 18)), (2, .int (iz (xb (pay)))), (3, .int (iz (((line : Nat) : Int) + 1)))] rfl ?_
            exact ih2 (line + 1) (by omega) (by omega) (by rw [← hr9, lf_n (by omega) zcf]; rfl)
          · skip
            refine hv_aload_n C 0 1 dX1_firstLine_32 rfl rfl ?_
            refine hv_iload_n C 3 4 dX1_firstLine_33 rfl rfl ?_
            refine hv_aload_n C 1 2 dX1_firstLine_34 rfl rfl ?_
            refine zt_callV [.int (iz ((line : Nat) : Int)), .ref (b + 18)] [] C K (cw_ob ho) rfl (k_X1_holds l A k9 p9 s9 hn9 i8 τ line hA hC2 hl hlj (by omega) hF (by omega)) ck_X1_29 (by decide) ⟨Nat.zero_le _, Nat.zero_le _⟩ rfl (Nat.le_of_ble_eq_true rfl) dX1_firstLine_35 ?_
            refine hv_as (xb (hd A (800 + 320 * k9 + 20 * line) s9 hn9 i8 (A (800 + 320 * k9 + 20 * line)).toNat)) rfl ?_
            refine hv_bif_eq C 43 dX1_firstLine_38 (by decide)  (fun h38 => ?_) (fun h38 => ?_)
            · skip
              have zcf : ((decide (A ((800 + 320 * k9 + 20 * line) + 17) = 22) == pay) && hd A (800 + 320 * k9 + 20 * line) s9 hn9 i8 (A (800 + 320 * k9 + 20 * line)).toNat) = false := by first | (rw [h38, Bool.and_false]; done) | (rw [show (decide (A ((800 + 320 * k9 + 20 * line) + 17) = 22) == pay) = false by (rw [zpp]; cases pay <;> first | rfl | (exfalso; revert h29; decide)), Bool.false_and])
              refine hv_iinc C 3 4 [(3, .int (iz (((line : Nat) : Int) + 1))), (4, .int (iz 1)), (0, .ref p9), (1, .ref (b + 18)), (2, .int (iz (xb (pay))))] dX1_firstLine_43 rfl (by decide) rfl ?_
              refine hv_goto C 2 dX1_firstLine_46 (by decide) ?_
              refine hv_loc [2, 3, 4, 0] [(0, .ref p9), (1, .ref (b + 18)), (2, .int (iz (xb (pay)))), (3, .int (iz (((line : Nat) : Int) + 1)))] rfl ?_
              exact ih2 (line + 1) (by omega) (by omega) (by rw [← hr9, lf_n (by omega) zcf]; rfl)
            · skip
              have zcy : ((decide (A ((800 + 320 * k9 + 20 * line) + 17) = 22) == pay) && hd A (800 + 320 * k9 + 20 * line) s9 hn9 i8 (A (800 + 320 * k9 + 20 * line)).toNat) = true := by rw [h38, Bool.and_true, zpp]; cases pay <;> first | rfl | (exfalso; revert h29; decide)
              refine hv_iload_n C 3 4 dX1_firstLine_41 rfl rfl ?_
              exact zt_iret C hr hlk (by first | (rw [← hr9, lf_y (by omega) zcy]; done) | (rw [← hr9, show (A (14 + k9)).toNat - line = 0 by omega]; rfl)) rfl dX1_firstLine_42
  refine hv_loc [1, 2, 3, 0] [(0, .ref p9), (1, .ref (b + 18)), (2, .int (iz (xb (pay)))), (3, .int (iz 0))] rfl ?_
  exact L2 _ 0 (Nat.lt_succ_self _) (by omega) rfl
theorem dX1_clearsBy_0 : decode cX1_clearsBy 0 = .ok (.iload_n 1, 1) := by decide +kernel
theorem dX1_clearsBy_1 : decode cX1_clearsBy 1 = .ok (.iconst 0, 1) := by decide +kernel
theorem dX1_clearsBy_2 : decode cX1_clearsBy 2 = .ok (.aload_n 0, 1) := by decide +kernel
theorem dX1_clearsBy_3 : decode cX1_clearsBy 3 = .ok (.getfield 21, 3) := by decide +kernel
theorem dX1_clearsBy_6 : decode cX1_clearsBy 6 = .ok (.iconst 1, 1) := by decide +kernel
theorem dX1_clearsBy_7 : decode cX1_clearsBy 7 = .ok (.isub, 1) := by decide +kernel
theorem dX1_clearsBy_8 : decode cX1_clearsBy 8 = .ok (.invokestatic 33, 3) := by decide +kernel
theorem dX1_clearsBy_11 : decode cX1_clearsBy 11 = .ok (.ifCond .eq 17, 3) := by decide +kernel
theorem dX1_clearsBy_14 : decode cX1_clearsBy 14 = .ok (.aload_n 0, 1) := by decide +kernel
theorem dX1_clearsBy_15 : decode cX1_clearsBy 15 = .ok (.getfield 9, 3) := by decide +kernel
theorem dX1_clearsBy_18 : decode cX1_clearsBy 18 = .ok (.iload_n 1, 1) := by decide +kernel
theorem dX1_clearsBy_19 : decode cX1_clearsBy 19 = .ok (.iaload, 1) := by decide +kernel
theorem dX1_clearsBy_20 : decode cX1_clearsBy 20 = .ok (.iconst (-1), 1) := by decide +kernel
theorem dX1_clearsBy_21 : decode cX1_clearsBy 21 = .ok (.if_icmp .ne 7, 3) := by decide +kernel
theorem dX1_clearsBy_24 : decode cX1_clearsBy 24 = .ok (.iconst 1, 1) := by decide +kernel
theorem dX1_clearsBy_25 : decode cX1_clearsBy 25 = .ok (.goto 4, 3) := by decide +kernel
theorem dX1_clearsBy_28 : decode cX1_clearsBy 28 = .ok (.iconst 0, 1) := by decide +kernel
theorem dX1_clearsBy_29 : decode cX1_clearsBy 29 = .ok (.ireturn, 1) := by decide +kernel
theorem ck_X1_33 : zcN RX1 "HookUps" yX11_within cX11_within 3 (some .boolean) 33 3 := ⟨hk_tq2 109 (by decide +kernel) (by decide +kernel), by decide +kernel, hk_tq1 1 (by decide +kernel) (by decide +kernel), ⟨by decide, by decide, by decide +kernel⟩, hk_tq2 108 (by decide +kernel) (by decide +kernel)⟩
set_option maxRecDepth 100000 in
set_option maxHeartbeats 4000000 in
theorem k_X1_clearsBy (l : Launch) {D : va_G} {ar : Nat → ClassId} {B : Nat → Prop} {b n : Nat} {w0 : zcW} (A : Nat → Int) (k9 p9 : Nat) (τ : Nat → Nat → Int) (x : Int) (hA : ∀ i, inI (A i)) (hC : rlC ar b w0 A k9 p9) (hl : li A) (hlj : lj9 A) (hk9 : k9 < 3) (r_x : inI x) : zt_M l D ar B b w0 n yX1_clearsBy cX1_clearsBy 2 (some .boolean) 1 22 [.ref p9, .int (iz x)] τ (some (.int (iz (xb (decide ((0 ≤ x ∧ x ≤ A (14 + k9) - 1) ∧ A ((800 + 320 * k9 + 20 * x.toNat) + 17) = 20)))))) (τ) := by
  refine zc_start (own := RX1) (by decide +kernel) rfl (Nat.le_of_ble_eq_true rfl) ?_
  intro p e s m args below meth c C K hr hlk hnam
  obtain ⟨pd, pc9, pt, fd, fc, ft, ho, hd9, hc9, ht9, hx9⟩ := hC
  have hll := (hl k9 hk9).1
  refine hv_iload_n C 1 1 dX1_clearsBy_0 rfl rfl ?_
  refine hv_iconst C dX1_clearsBy_1 ?_
  refine hv_aload_n C 0 0 dX1_clearsBy_2 rfl rfl ?_
  refine zc_get C K (v := .int (iz (A (14 + k9)))) 0 rfl hu_2 (by decide) (cw_ob ho) rfl fl_X1_21 rfl dX1_clearsBy_3 ?_
  refine hv_nm (fun x1 ex1 => ?_)
  have rx1 : inI x1 := by rw [ex1]; exact (hA _)
  refine hv_iconst C dX1_clearsBy_6 ?_
  refine hv_isub C dX1_clearsBy_7 ?_
  refine zt_callN [.int (iz x), .int (iz 0), .int (iz (x1 - 1))] [] C K (k_X11_within l  τ x 0 (x1 - 1) (by omega) (by omega) (by omega)) ck_X1_33 (by decide) ⟨Nat.zero_le _, Nat.zero_le _⟩ rfl (Nat.le_of_ble_eq_true rfl) dX1_clearsBy_8 ?_
  refine hv_as (xb (decide (0 ≤ x ∧ x ≤ (x1 - 1)))) rfl ?_
  refine hv_dif_eq C 28 dX1_clearsBy_11 (by decide)  (fun h11 => ?_) (fun h11 => ?_)
  · skip
    refine hv_iconst C dX1_clearsBy_28 ?_
    exact zt_zret C hr hlk ((xb_f (decide_eq_false (by (try simp only [Int.toNat_natCast] at *); omega))).symm) rfl dX1_clearsBy_29
  · skip
    obtain ⟨xN, rfl⟩ : ∃ n9 : Nat, x = (n9 : Int) := ⟨(x).toNat, by omega⟩
    (try simp only [Int.toNat_natCast] at *)
    have hxl := hx9 xN (by omega)
    have hjl := hlj k9 hk9 xN (by omega)
    have zdd : (fd xN = -1 ↔ A (800 + 320 * k9 + 20 * xN + 17) = 20) ∧ inI (fd xN) := by rw [hxl.1]; unfold deed; have z := hjl.2.1; split; (omega); (split <;> omega)
    refine hv_aload_n C 0 0 dX1_clearsBy_14 rfl rfl ?_
    refine zc_get C K (v := .ref pd) 1 rfl hu_2 (by decide) (cw_ob ho) rfl fl_X1_9 rfl dX1_clearsBy_15 ?_
    refine hv_iload_n C 1 1 dX1_clearsBy_18 rfl rfl ?_
    refine zc_iald C K (f := fd) xN (cw_ia hd9) (by omega) (by omega) (by decide) dX1_clearsBy_19 ?_
    refine hv_nm (fun x2 ex2 => ?_)
    have rx2 : inI x2 := by rw [ex2]; exact zdd.2
    refine hv_iconst C dX1_clearsBy_20 ?_
    refine hv_icmp_ne C 28 dX1_clearsBy_21 (by decide) (by omega) (by omega) (fun h21 => ?_) (fun h21 => ?_)
    · skip
      refine hv_iconst C dX1_clearsBy_28 ?_
      exact zt_zret C hr hlk ((xb_f (decide_eq_false (by (try simp only [Int.toNat_natCast] at *); omega))).symm) rfl dX1_clearsBy_29
    · skip
      refine hv_iconst C dX1_clearsBy_24 ?_
      refine hv_goto C 29 dX1_clearsBy_25 (by decide) ?_
      exact zt_zret C hr hlk ((xb_t (decide_eq_true (by (try simp only [Int.toNat_natCast] at *); omega))).symm) rfl dX1_clearsBy_29
theorem dX1_payBy_0 : decode cX1_payBy 0 = .ok (.iload_n 1, 1) := by decide +kernel
theorem dX1_payBy_1 : decode cX1_payBy 1 = .ok (.iconst 0, 1) := by decide +kernel
theorem dX1_payBy_2 : decode cX1_payBy 2 = .ok (.aload_n 0, 1) := by decide +kernel
theorem dX1_payBy_3 : decode cX1_payBy 3 = .ok (.getfield 21, 3) := by decide +kernel
theorem dX1_payBy_6 : decode cX1_payBy 6 = .ok (.iconst 1, 1) := by decide +kernel
theorem dX1_payBy_7 : decode cX1_payBy 7 = .ok (.isub, 1) := by decide +kernel
theorem dX1_payBy_8 : decode cX1_payBy 8 = .ok (.invokestatic 33, 3) := by decide +kernel
theorem dX1_payBy_11 : decode cX1_payBy 11 = .ok (.ifCond .eq 16, 3) := by decide +kernel
theorem dX1_payBy_14 : decode cX1_payBy 14 = .ok (.iconst 0, 1) := by decide +kernel
theorem dX1_payBy_15 : decode cX1_payBy 15 = .ok (.aload_n 0, 1) := by decide +kernel
theorem dX1_payBy_16 : decode cX1_payBy 16 = .ok (.getfield 9, 3) := by decide +kernel
theorem dX1_payBy_19 : decode cX1_payBy 19 = .ok (.iload_n 1, 1) := by decide +kernel
theorem dX1_payBy_20 : decode cX1_payBy 20 = .ok (.iaload, 1) := by decide +kernel
theorem dX1_payBy_21 : decode cX1_payBy 21 = .ok (.invokestatic 37, 3) := by decide +kernel
theorem dX1_payBy_24 : decode cX1_payBy 24 = .ok (.goto 4, 3) := by decide +kernel
theorem dX1_payBy_27 : decode cX1_payBy 27 = .ok (.iconst 0, 1) := by decide +kernel
theorem dX1_payBy_28 : decode cX1_payBy 28 = .ok (.ireturn, 1) := by decide +kernel
theorem ck_X1_37 : zcS RX1 yJ9_max_7cf53 cJ9_max_7cf53 2 (some .int) 37 2 := ⟨hk_tq2 155 (by decide +kernel) (by decide +kernel), hk_tq5 19 (by decide +kernel) (by decide +kernel), hk_tq1 14 (by decide +kernel) (by decide +kernel), ⟨by decide, by decide, by decide +kernel⟩, hk_tq2 154 (by decide +kernel) (by decide +kernel)⟩
set_option maxRecDepth 100000 in
set_option maxHeartbeats 4000000 in
theorem k_X1_payBy (l : Launch) {D : va_G} {ar : Nat → ClassId} {B : Nat → Prop} {b n : Nat} {w0 : zcW} (A : Nat → Int) (k9 p9 : Nat) (τ : Nat → Nat → Int) (x : Int) (hA : ∀ i, inI (A i)) (hC : rlC ar b w0 A k9 p9) (hl : li A) (hlj : lj9 A) (hk9 : k9 < 3) (r_x : inI x) : zt_M l D ar B b w0 n yX1_payBy cX1_payBy 2 (some .int) 1 22 [.ref p9, .int (iz x)] τ (some (.int (iz (if 0 ≤ x ∧ x ≤ A (14 + k9) - 1 then (if A ((800 + 320 * k9 + 20 * x.toNat) + 17) = 22 then A ((800 + 320 * k9 + 20 * x.toNat) + 18) else 0) else 0)))) (τ) := by
  refine zc_start (own := RX1) (by decide +kernel) rfl (Nat.le_of_ble_eq_true rfl) ?_
  intro p e s m args below meth c C K hr hlk hnam
  obtain ⟨pd, pc9, pt, fd, fc, ft, ho, hd9, hc9, ht9, hx9⟩ := hC
  have hll := (hl k9 hk9).1
  refine hv_iload_n C 1 1 dX1_payBy_0 rfl rfl ?_
  refine hv_iconst C dX1_payBy_1 ?_
  refine hv_aload_n C 0 0 dX1_payBy_2 rfl rfl ?_
  refine zc_get C K (v := .int (iz (A (14 + k9)))) 0 rfl hu_2 (by decide) (cw_ob ho) rfl fl_X1_21 rfl dX1_payBy_3 ?_
  refine hv_nm (fun x1 ex1 => ?_)
  have rx1 : inI x1 := by rw [ex1]; exact (hA _)
  refine hv_iconst C dX1_payBy_6 ?_
  refine hv_isub C dX1_payBy_7 ?_
  refine zt_callN [.int (iz x), .int (iz 0), .int (iz (x1 - 1))] [] C K (k_X11_within l  τ x 0 (x1 - 1) (by omega) (by omega) (by omega)) ck_X1_33 (by decide) ⟨Nat.zero_le _, Nat.zero_le _⟩ rfl (Nat.le_of_ble_eq_true rfl) dX1_payBy_8 ?_
  refine hv_as (xb (decide (0 ≤ x ∧ x ≤ (x1 - 1)))) rfl ?_
  refine hv_dif_eq C 27 dX1_payBy_11 (by decide)  (fun h11 => ?_) (fun h11 => ?_)
  · skip
    refine hv_iconst C dX1_payBy_27 ?_
    exact zt_iret C hr hlk (by (try simp only [Int.toNat_natCast] at *); first | exact if_n (by omega) rfl | (refine if_p (by omega) ?_; rcases zdd.2 with z | z; (rw [if_pos z.1]; subst_vars; split <;> omega); (rw [if_neg z.1]; subst_vars; split <;> omega))) rfl dX1_payBy_28
  · skip
    obtain ⟨xN, rfl⟩ : ∃ n9 : Nat, x = (n9 : Int) := ⟨(x).toNat, by omega⟩
    (try simp only [Int.toNat_natCast] at *)
    have hxl := hx9 xN (by omega)
    have hjl := hlj k9 hk9 xN (by omega)
    have zdd : inI (fd xN) ∧ ((A (800 + 320 * k9 + 20 * xN + 17) = 22 ∧ fd xN = A (800 + 320 * k9 + 20 * xN + 18)) ∨ (¬ A (800 + 320 * k9 + 20 * xN + 17) = 22 ∧ fd xN < 0)) := by rw [hxl.1]; unfold deed; have z := hjl.2.1; split; (omega); (split <;> omega)
    refine hv_iconst C dX1_payBy_14 ?_
    refine hv_aload_n C 0 0 dX1_payBy_15 rfl rfl ?_
    refine zc_get C K (v := .ref pd) 1 rfl hu_2 (by decide) (cw_ob ho) rfl fl_X1_9 rfl dX1_payBy_16 ?_
    refine hv_iload_n C 1 1 dX1_payBy_19 rfl rfl ?_
    refine zc_iald C K (f := fd) xN (cw_ia hd9) (by omega) (by omega) (by decide) dX1_payBy_20 ?_
    refine hv_nm (fun x2 ex2 => ?_)
    have rx2 : inI x2 := by rw [ex2]; exact zdd.1
    refine zt_callS [.int (iz 0), .int (iz x2)] [] C K (k_J9_max_7cf53 l  τ 0 x2 (by omega) (by omega)) ck_X1_37 (by decide) ⟨Nat.zero_le _, Nat.zero_le _⟩ rfl (Nat.le_of_ble_eq_true rfl) dX1_payBy_21 ?_
    refine hv_as ((if 0 < x2 then x2 else 0)) rfl ?_
    refine hv_nm (fun x3 ex3 => ?_)
    refine hv_goto C 28 dX1_payBy_24 (by decide) ?_
    exact zt_iret C hr hlk (by (try simp only [Int.toNat_natCast] at *); first | exact if_n (by omega) rfl | (refine if_p (by omega) ?_; rcases zdd.2 with z | z; (rw [if_pos z.1]; subst_vars; split <;> omega); (rw [if_neg z.1]; subst_vars; split <;> omega))) rfl dX1_payBy_28
