/-! longs -/
def lz (z : Int) : Int64 := Int64.ofInt z
abbrev inL (z : Int) : Prop := -9223372036854775808 ≤ z ∧ z ≤ 9223372036854775807
theorem lz_add (a b : Int) : lz a + lz b = lz (a + b) := (Int64.ofInt_add a b).symm
theorem lz_sub (a b : Int) : lz a - lz b = lz (a - b) := (Int64.ofInt_sub a b).symm
theorem lz_mul (a b : Int) : lz a * lz b = lz (a * b) := (Int64.ofInt_mul a b).symm
theorem lz_toInt {z : Int} (h : inL z) : (lz z).toInt = z := Int64.toInt_ofInt_of_le (by omega) (by omega)
theorem lz_lt {a b : Int} (ha : inL a) (hb : inL b) : lz a < lz b ↔ a < b := by rw [Int64.lt_iff_toInt_lt, lz_toInt ha, lz_toInt hb]
theorem lz_eq {a b : Int} (ha : inL a) (hb : inL b) : lz a = lz b ↔ a = b := by rw [← Int64.toInt_inj, lz_toInt ha, lz_toInt hb]
theorem lz_iz {z : Int} (h : inI z) : (iz z).toInt64 = lz z := by
  apply Int64.toInt_inj.1
  rw [Int32.toInt_toInt64, iz_toInt h, lz_toInt ⟨by omega, by omega⟩]
def lcv (x y : Int) : Int := if y < x then 1 else if x = y then 0 else -1
theorem lcv_in (x y : Int) : inI (lcv x y) := by unfold lcv; repeat' split
                                                 all_goals decide
theorem lcv_cmp {x y : Int} (hx : inL x) (hy : inL y) : lg_cmp (lz x) (lz y) = iz (lcv x y) := by
  unfold lg_cmp lcv
  simp only [lz_lt hy hx, lz_eq hx hy]
  repeat' split
  all_goals first | rfl | omega
section HV4
variable {p : Program} {l : Launch} {e : Env} {R : Room} {s : State} {m : MethodId} {args : Array Value} {below : List Frame} {meth : Method} {c : Code} {nL : Nat} {FR : Nat → Prop} {cells slots : Nat} {Q : State → Prop} {HI : Heap → Prop} {pc : Nat} {loc : List (Nat × Value)} {stk : List Value} {cc : ByteArray} {own : String}
theorem hv_lconst (C : CallFix p m c cc nL s args hk_tb own) {kf : Fin 2} (n : Int) (d : decode cc pc = .ok (.lconst kf, 1)) (h : Int64.ofNat (kf : Nat) = lz n) (k : hvV p l e R s m args below meth c nL FR cells slots Q HI (pc + 1) loc (.long (lz n) :: stk)) : hvV p l e R s m args below meth c nL FR cells slots Q HI pc loc stk := fun H locs ls h1 h2 h3 => lv_lconst C.1 C.2.1 d h (k H locs ls h1 h2 h3)
theorem hv_ldc2 (C : CallFix p m c cc nL s args hk_tb own) {index : Nat} {v : Int64} {n : Int} (w : Cond.constantLong own index v ∈ hk_tb) (hv : v = lz n) (d : decode cc pc = .ok (.ldc2_w index, 3)) (k : hvV p l e R s m args below meth c nL FR cells slots Q HI (pc + 3) loc (.long (lz n) :: stk)) : hvV p l e R s m args below meth c nL FR cells slots Q HI pc loc stk := fun H locs ls h1 h2 h3 => lv_ldc2 C.1 C.2.1 C.2.2.2.1 (C.2.2.2.2 _ w) d (by rw [hv]; exact k H locs ls h1 h2 h3)
theorem hv_ladd (C : CallFix p m c cc nL s args hk_tb own) {x y : Int} (d : decode cc pc = .ok (.ladd, 1)) (k : hvV p l e R s m args below meth c nL FR cells slots Q HI (pc + 1) loc (.long (lz (x + y)) :: stk)) : hvV p l e R s m args below meth c nL FR cells slots Q HI pc loc (.long (lz y) :: .long (lz x) :: stk) := fun H locs ls h1 h2 h3 => lv_ladd C.1 C.2.1 d (by rw [lz_add]; exact k H locs ls h1 h2 h3)
theorem hv_lsub (C : CallFix p m c cc nL s args hk_tb own) {x y : Int} (d : decode cc pc = .ok (.lsub, 1)) (k : hvV p l e R s m args below meth c nL FR cells slots Q HI (pc + 1) loc (.long (lz (x - y)) :: stk)) : hvV p l e R s m args below meth c nL FR cells slots Q HI pc loc (.long (lz y) :: .long (lz x) :: stk) := fun H locs ls h1 h2 h3 => lv_lsub C.1 C.2.1 d (by rw [lz_sub]; exact k H locs ls h1 h2 h3)
theorem hv_lmul (C : CallFix p m c cc nL s args hk_tb own) {x y : Int} (d : decode cc pc = .ok (.lmul, 1)) (k : hvV p l e R s m args below meth c nL FR cells slots Q HI (pc + 1) loc (.long (lz (x * y)) :: stk)) : hvV p l e R s m args below meth c nL FR cells slots Q HI pc loc (.long (lz y) :: .long (lz x) :: stk) := fun H locs ls h1 h2 h3 => lv_lmul C.1 C.2.1 d (by rw [lz_mul]; exact k H locs ls h1 h2 h3)
theorem hv_i2l (C : CallFix p m c cc nL s args hk_tb own) {x : Int} (h : inI x) (d : decode cc pc = .ok (.i2l, 1)) (k : hvV p l e R s m args below meth c nL FR cells slots Q HI (pc + 1) loc (.long (lz x) :: stk)) : hvV p l e R s m args below meth c nL FR cells slots Q HI pc loc (.int (iz x) :: stk) := fun H locs ls h1 h2 h3 => lv_i2l C.1 C.2.1 d (lz_iz h) (k H locs ls h1 h2 h3)
theorem hv_lcmp (C : CallFix p m c cc nL s args hk_tb own) {x y : Int} (hx : inL x) (hy : inL y) (d : decode cc pc = .ok (.lcmp, 1)) (k : hvV p l e R s m args below meth c nL FR cells slots Q HI (pc + 1) loc (.int (iz (lcv x y)) :: stk)) : hvV p l e R s m args below meth c nL FR cells slots Q HI pc loc (.long (lz y) :: .long (lz x) :: stk) := fun H locs ls h1 h2 h3 => W.lcmp C.1 C.2.1 d (by rw [lcv_cmp hx hy]; exact k H locs ls h1 h2 h3)
theorem hv_cif_ne (C : CallFix p m c cc nL s args hk_tb own) {x y : Int} {off : Int} (tgt : Nat) (d : decode cc pc = .ok (.ifCond .ne off, 3)) (ht : (pc : Int) + off = (tgt : Int)) (kt : ¬ x = y → hvV p l e R s m args below meth c nL FR cells slots Q HI tgt loc stk) (kf : x = y → hvV p l e R s m args below meth c nL FR cells slots Q HI (pc + 3) loc stk) : hvV p l e R s m args below meth c nL FR cells slots Q HI pc loc (.int (iz (lcv x y)) :: stk) :=
  hv_if_ne C tgt d ht (lcv_in x y) (fun h => kt (by unfold lcv at h; split at h <;> (try split at h) <;> omega)) (fun h => kf (by unfold lcv at h; split at h <;> (try split at h) <;> omega))
theorem hv_cif_le (C : CallFix p m c cc nL s args hk_tb own) {x y : Int} {off : Int} (tgt : Nat) (d : decode cc pc = .ok (.ifCond .le off, 3)) (ht : (pc : Int) + off = (tgt : Int)) (kt : x ≤ y → hvV p l e R s m args below meth c nL FR cells slots Q HI tgt loc stk) (kf : y < x → hvV p l e R s m args below meth c nL FR cells slots Q HI (pc + 3) loc stk) : hvV p l e R s m args below meth c nL FR cells slots Q HI pc loc (.int (iz (lcv x y)) :: stk) :=
  hv_if_le C tgt d ht (lcv_in x y) (fun h => kt (by unfold lcv at h; split at h <;> (try split at h) <;> omega)) (fun h => kf (by unfold lcv at h; split at h <;> (try split at h) <;> omega))
end HV4
def wrd (v : Int) : Int := if v = 638340 then 1 else if v = 659993778 then 2 else if v = 635380 then 3 else if v = 17292466 then 4 else if v = 486155365 then 5 else if v = 867781 then 6 else if v = 638548 then 7 else if v = 409031 then 8 else if v = 758955 then 9 else if v = 3544114 then 20 else if v = 609441381 then 21 else if v = 16441 then 22 else if v = 294 then 30 else if v = 1476 then 31 else if v = 14836 then 32 else 99

theorem dX12_three_0 : decode cX12_three 0 = .ok (.ldc2_w 95, 3) := by decide +kernel
theorem dX12_three_3 : decode cX12_three 3 = .ok (.iload_n 0, 1) := by decide +kernel
theorem dX12_three_4 : decode cX12_three 4 = .ok (.bipush 96, 2) := by decide +kernel
theorem dX12_three_6 : decode cX12_three 6 = .ok (.isub, 1) := by decide +kernel
theorem dX12_three_7 : decode cX12_three 7 = .ok (.i2l, 1) := by decide +kernel
theorem dX12_three_8 : decode cX12_three 8 = .ok (.lmul, 1) := by decide +kernel
theorem dX12_three_9 : decode cX12_three 9 = .ok (.iload_n 1, 1) := by decide +kernel
theorem dX12_three_10 : decode cX12_three 10 = .ok (.i2l, 1) := by decide +kernel
theorem dX12_three_11 : decode cX12_three 11 = .ok (.ladd, 1) := by decide +kernel
theorem dX12_three_12 : decode cX12_three 12 = .ok (.ldc2_w 97, 3) := by decide +kernel
theorem dX12_three_15 : decode cX12_three 15 = .ok (.lsub, 1) := by decide +kernel
theorem dX12_three_16 : decode cX12_three 16 = .ok (.ldc2_w 95, 3) := by decide +kernel
theorem dX12_three_19 : decode cX12_three 19 = .ok (.lmul, 1) := by decide +kernel
theorem dX12_three_20 : decode cX12_three 20 = .ok (.iload_n 2, 1) := by decide +kernel
theorem dX12_three_21 : decode cX12_three 21 = .ok (.i2l, 1) := by decide +kernel
theorem dX12_three_22 : decode cX12_three 22 = .ok (.ladd, 1) := by decide +kernel
theorem dX12_three_23 : decode cX12_three 23 = .ok (.ldc2_w 97, 3) := by decide +kernel
theorem dX12_three_26 : decode cX12_three 26 = .ok (.lsub, 1) := by decide +kernel
theorem dX12_three_27 : decode cX12_three 27 = .ok (.lreturn, 1) := by decide +kernel
set_option maxRecDepth 100000 in
set_option maxHeartbeats 4000000 in
theorem k_three (l : Launch) {D : va_G} {cI cZ : ClassId} {a0 : Nat} (σ : Nat → Nat → Int) (a : Int) (b : Int) (c9 : Int) (r_a : 0 ≤ a ∧ a ≤ 255) (r_b : 0 ≤ b ∧ b ≤ 255) (r_c9 : 0 ≤ c9 ∧ c9 ≤ 255) : moM l D cI cZ a0 yX12_three cX12_three 3 (some .long) 0 0 [.int (iz a), .int (iz b), .int (iz c9)] σ (some (.long (lz ((((((32 * (a - 96)) + b) - 96) * 32) + c9) - 96)))) (σ) := by
  refine mo_start (by decide) rfl (Nat.le_of_ble_eq_true rfl) ?_
  intro p e s m args below meth c C K hr hlk
  refine hv_ldc2 C (n := 32) lc_95 rfl dX12_three_0 ?_
  refine hv_iload_n C 0 0 dX12_three_3 rfl rfl ?_
  refine hv_bipush C dX12_three_4 (by decide) ?_
  refine hv_isub C dX12_three_6 ?_
  refine hv_i2l C (by omega) dX12_three_7 ?_
  refine hv_lmul C dX12_three_8 ?_
  refine hv_iload_n C 1 1 dX12_three_9 rfl rfl ?_
  refine hv_i2l C (by omega) dX12_three_10 ?_
  refine hv_ladd C dX12_three_11 ?_
  refine hv_ldc2 C (n := 96) lc_97 rfl dX12_three_12 ?_
  refine hv_lsub C dX12_three_15 ?_
  refine hv_ldc2 C (n := 32) lc_95 rfl dX12_three_16 ?_
  refine hv_lmul C dX12_three_19 ?_
  refine hv_iload_n C 2 2 dX12_three_20 rfl rfl ?_
  refine hv_i2l C (by omega) dX12_three_21 ?_
  refine hv_ladd C dX12_three_22 ?_
  refine hv_ldc2 C (n := 96) lc_97 rfl dX12_three_23 ?_
  refine hv_lsub C dX12_three_26 ?_
  exact mo_lret (Qc := fun _ _ _ _ => True) C hr hlk rfl rfl dX12_three_27
theorem dX12_four_0 : decode cX12_four 0 = .ok (.iload_n 0, 1) := by decide +kernel
theorem dX12_four_1 : decode cX12_four 1 = .ok (.iload_n 1, 1) := by decide +kernel
theorem dX12_four_2 : decode cX12_four 2 = .ok (.iload_n 2, 1) := by decide +kernel
theorem dX12_four_3 : decode cX12_four 3 = .ok (.invokestatic 99, 3) := by decide +kernel
theorem dX12_four_6 : decode cX12_four 6 = .ok (.ldc2_w 95, 3) := by decide +kernel
theorem dX12_four_9 : decode cX12_four 9 = .ok (.lmul, 1) := by decide +kernel
theorem dX12_four_10 : decode cX12_four 10 = .ok (.iload_n 3, 1) := by decide +kernel
theorem dX12_four_11 : decode cX12_four 11 = .ok (.i2l, 1) := by decide +kernel
theorem dX12_four_12 : decode cX12_four 12 = .ok (.ladd, 1) := by decide +kernel
theorem dX12_four_13 : decode cX12_four 13 = .ok (.ldc2_w 97, 3) := by decide +kernel
theorem dX12_four_16 : decode cX12_four 16 = .ok (.lsub, 1) := by decide +kernel
theorem dX12_four_17 : decode cX12_four 17 = .ok (.lreturn, 1) := by decide +kernel
set_option maxRecDepth 100000 in
set_option maxHeartbeats 4000000 in
theorem k_four (l : Launch) {D : va_G} {cI cZ : ClassId} {a0 : Nat} (σ : Nat → Nat → Int) (a : Int) (b : Int) (c9 : Int) (d : Int) (r_a : 0 ≤ a ∧ a ≤ 255) (r_b : 0 ≤ b ∧ b ≤ 255) (r_c9 : 0 ≤ c9 ∧ c9 ≤ 255) (r_d : 0 ≤ d ∧ d ≤ 255) : moM l D cI cZ a0 yX12_four cX12_four 4 (some .long) 1 22 [.int (iz a), .int (iz b), .int (iz c9), .int (iz d)] σ (some (.long (lz (((((((((32 * (a - 96)) + b) - 96) * 32) + c9) - 96) * 32) + d) - 96)))) (σ) := by
  refine mo_start (by decide) rfl (Nat.le_of_ble_eq_true rfl) ?_
  intro p e s m args below meth c C K hr hlk
  refine hv_iload_n C 0 0 dX12_four_0 rfl rfl ?_
  refine hv_iload_n C 1 1 dX12_four_1 rfl rfl ?_
  refine hv_iload_n C 2 2 dX12_four_2 rfl rfl ?_
  refine mo_callS [.int (iz a), .int (iz b), .int (iz c9)] [] C K (k_three l σ a b c9 (by omega) (by omega) (by omega)) ck_three (by decide) rfl (Nat.le_of_ble_eq_true rfl) dX12_four_3 ?_
  refine hv_ldc2 C (n := 32) lc_95 rfl dX12_four_6 ?_
  refine hv_lmul C dX12_four_9 ?_
  refine hv_iload_n C 3 3 dX12_four_10 rfl rfl ?_
  refine hv_i2l C (by omega) dX12_four_11 ?_
  refine hv_ladd C dX12_four_12 ?_
  refine hv_ldc2 C (n := 96) lc_97 rfl dX12_four_13 ?_
  refine hv_lsub C dX12_four_16 ?_
  exact mo_lret (Qc := fun _ _ _ _ => True) C hr hlk rfl rfl dX12_four_17
theorem dX12_six_0 : decode cX12_six 0 = .ok (.lload_n 0, 1) := by decide +kernel
theorem dX12_six_1 : decode cX12_six 1 = .ok (.ldc2_w 103, 3) := by decide +kernel
theorem dX12_six_4 : decode cX12_six 4 = .ok (.lmul, 1) := by decide +kernel
theorem dX12_six_5 : decode cX12_six 5 = .ok (.lload_n 2, 1) := by decide +kernel
theorem dX12_six_6 : decode cX12_six 6 = .ok (.ladd, 1) := by decide +kernel
theorem dX12_six_7 : decode cX12_six 7 = .ok (.lreturn, 1) := by decide +kernel
set_option maxRecDepth 100000 in
set_option maxHeartbeats 4000000 in
theorem k_six (l : Launch) {D : va_G} {cI cZ : ClassId} {a0 : Nat} (σ : Nat → Nat → Int) (a : Int) (b : Int)  : moM l D cI cZ a0 yX12_six cX12_six 4 (some .long) 0 0 [.long (lz a), .long (lz b)] σ (some (.long (lz ((a * 32768) + b)))) (σ) := by
  refine mo_start (by decide) rfl (Nat.le_of_ble_eq_true rfl) ?_
  intro p e s m args below meth c C K hr hlk
  refine hv_lload_n C 0 0 dX12_six_0 rfl rfl ?_
  refine hv_ldc2 C (n := 32768) lc_103 rfl dX12_six_1 ?_
  refine hv_lmul C dX12_six_4 ?_
  refine hv_lload_n C 2 1 dX12_six_5 rfl rfl ?_
  refine hv_ladd C dX12_six_6 ?_
  exact mo_lret (Qc := fun _ _ _ _ => True) C hr hlk rfl rfl dX12_six_7
theorem dX12_wordOf_0 : decode cX12_wordOf 0 = .ok (.lload_n 0, 1) := by decide +kernel
theorem dX12_wordOf_1 : decode cX12_wordOf 1 = .ok (.bipush 115, 2) := by decide +kernel
theorem dX12_wordOf_3 : decode cX12_wordOf 3 = .ok (.bipush 111, 2) := by decide +kernel
theorem dX12_wordOf_5 : decode cX12_wordOf 5 = .ok (.bipush 108, 2) := by decide +kernel
theorem dX12_wordOf_7 : decode cX12_wordOf 7 = .ok (.bipush 100, 2) := by decide +kernel
theorem dX12_wordOf_9 : decode cX12_wordOf 9 = .ok (.invokestatic 105, 3) := by decide +kernel
theorem dX12_wordOf_12 : decode cX12_wordOf 12 = .ok (.lcmp, 1) := by decide +kernel
theorem dX12_wordOf_13 : decode cX12_wordOf 13 = .ok (.ifCond .ne 5, 3) := by decide +kernel
theorem dX12_wordOf_16 : decode cX12_wordOf 16 = .ok (.iconst 1, 1) := by decide +kernel
theorem dX12_wordOf_17 : decode cX12_wordOf 17 = .ok (.ireturn, 1) := by decide +kernel
theorem dX12_wordOf_18 : decode cX12_wordOf 18 = .ok (.lload_n 0, 1) := by decide +kernel
theorem dX12_wordOf_19 : decode cX12_wordOf 19 = .ok (.bipush 115, 2) := by decide +kernel
theorem dX12_wordOf_21 : decode cX12_wordOf 21 = .ok (.bipush 117, 2) := by decide +kernel
theorem dX12_wordOf_23 : decode cX12_wordOf 23 = .ok (.bipush 109, 2) := by decide +kernel
theorem dX12_wordOf_25 : decode cX12_wordOf 25 = .ok (.invokestatic 99, 3) := by decide +kernel
theorem dX12_wordOf_28 : decode cX12_wordOf 28 = .ok (.bipush 109, 2) := by decide +kernel
theorem dX12_wordOf_30 : decode cX12_wordOf 30 = .ok (.bipush 101, 2) := by decide +kernel
theorem dX12_wordOf_32 : decode cX12_wordOf 32 = .ok (.bipush 114, 2) := by decide +kernel
theorem dX12_wordOf_34 : decode cX12_wordOf 34 = .ok (.invokestatic 99, 3) := by decide +kernel
theorem dX12_wordOf_37 : decode cX12_wordOf 37 = .ok (.invokestatic 109, 3) := by decide +kernel
theorem dX12_wordOf_40 : decode cX12_wordOf 40 = .ok (.lcmp, 1) := by decide +kernel
theorem dX12_wordOf_41 : decode cX12_wordOf 41 = .ok (.ifCond .ne 5, 3) := by decide +kernel
theorem dX12_wordOf_44 : decode cX12_wordOf 44 = .ok (.iconst 2, 1) := by decide +kernel
theorem dX12_wordOf_45 : decode cX12_wordOf 45 = .ok (.ireturn, 1) := by decide +kernel
theorem dX12_wordOf_46 : decode cX12_wordOf 46 = .ok (.lload_n 0, 1) := by decide +kernel
theorem dX12_wordOf_47 : decode cX12_wordOf 47 = .ok (.bipush 115, 2) := by decide +kernel
theorem dX12_wordOf_49 : decode cX12_wordOf 49 = .ok (.bipush 108, 2) := by decide +kernel
theorem dX12_wordOf_51 : decode cX12_wordOf 51 = .ok (.bipush 111, 2) := by decide +kernel
theorem dX12_wordOf_53 : decode cX12_wordOf 53 = .ok (.bipush 116, 2) := by decide +kernel
theorem dX12_wordOf_55 : decode cX12_wordOf 55 = .ok (.invokestatic 105, 3) := by decide +kernel
theorem dX12_wordOf_58 : decode cX12_wordOf 58 = .ok (.lcmp, 1) := by decide +kernel
theorem dX12_wordOf_59 : decode cX12_wordOf 59 = .ok (.ifCond .ne 5, 3) := by decide +kernel
theorem dX12_wordOf_62 : decode cX12_wordOf 62 = .ok (.iconst 3, 1) := by decide +kernel
theorem dX12_wordOf_63 : decode cX12_wordOf 63 = .ok (.ireturn, 1) := by decide +kernel
theorem dX12_wordOf_64 : decode cX12_wordOf 64 = .ok (.lload_n 0, 1) := by decide +kernel
theorem dX12_wordOf_65 : decode cX12_wordOf 65 = .ok (.bipush 112, 2) := by decide +kernel
theorem dX12_wordOf_67 : decode cX12_wordOf 67 = .ok (.bipush 111, 2) := by decide +kernel
theorem dX12_wordOf_69 : decode cX12_wordOf 69 = .ok (.bipush 119, 2) := by decide +kernel
theorem dX12_wordOf_71 : decode cX12_wordOf 71 = .ok (.bipush 101, 2) := by decide +kernel
theorem dX12_wordOf_73 : decode cX12_wordOf 73 = .ok (.invokestatic 105, 3) := by decide +kernel
theorem dX12_wordOf_76 : decode cX12_wordOf 76 = .ok (.ldc2_w 95, 3) := by decide +kernel
theorem dX12_wordOf_79 : decode cX12_wordOf 79 = .ok (.lmul, 1) := by decide +kernel
theorem dX12_wordOf_80 : decode cX12_wordOf 80 = .ok (.ldc2_w 113, 3) := by decide +kernel
theorem dX12_wordOf_83 : decode cX12_wordOf 83 = .ok (.ladd, 1) := by decide +kernel
theorem dX12_wordOf_84 : decode cX12_wordOf 84 = .ok (.ldc2_w 97, 3) := by decide +kernel
theorem dX12_wordOf_87 : decode cX12_wordOf 87 = .ok (.lsub, 1) := by decide +kernel
theorem dX12_wordOf_88 : decode cX12_wordOf 88 = .ok (.lcmp, 1) := by decide +kernel
theorem dX12_wordOf_89 : decode cX12_wordOf 89 = .ok (.ifCond .ne 5, 3) := by decide +kernel
theorem dX12_wordOf_92 : decode cX12_wordOf 92 = .ok (.iconst 4, 1) := by decide +kernel
theorem dX12_wordOf_93 : decode cX12_wordOf 93 = .ok (.ireturn, 1) := by decide +kernel
theorem dX12_wordOf_94 : decode cX12_wordOf 94 = .ok (.lload_n 0, 1) := by decide +kernel
theorem dX12_wordOf_95 : decode cX12_wordOf 95 = .ok (.bipush 110, 2) := by decide +kernel
theorem dX12_wordOf_97 : decode cX12_wordOf 97 = .ok (.bipush 111, 2) := by decide +kernel
theorem dX12_wordOf_99 : decode cX12_wordOf 99 = .ok (.bipush 116, 2) := by decide +kernel
theorem dX12_wordOf_101 : decode cX12_wordOf 101 = .ok (.invokestatic 99, 3) := by decide +kernel
theorem dX12_wordOf_104 : decode cX12_wordOf 104 = .ok (.bipush 105, 2) := by decide +kernel
theorem dX12_wordOf_106 : decode cX12_wordOf 106 = .ok (.bipush 99, 2) := by decide +kernel
theorem dX12_wordOf_108 : decode cX12_wordOf 108 = .ok (.bipush 101, 2) := by decide +kernel
theorem dX12_wordOf_110 : decode cX12_wordOf 110 = .ok (.invokestatic 99, 3) := by decide +kernel
theorem dX12_wordOf_113 : decode cX12_wordOf 113 = .ok (.invokestatic 109, 3) := by decide +kernel
theorem dX12_wordOf_116 : decode cX12_wordOf 116 = .ok (.lcmp, 1) := by decide +kernel
theorem dX12_wordOf_117 : decode cX12_wordOf 117 = .ok (.ifCond .ne 5, 3) := by decide +kernel
theorem dX12_wordOf_120 : decode cX12_wordOf 120 = .ok (.iconst 5, 1) := by decide +kernel
theorem dX12_wordOf_121 : decode cX12_wordOf 121 = .ok (.ireturn, 1) := by decide +kernel
theorem dX12_wordOf_122 : decode cX12_wordOf 122 = .ok (.lload_n 0, 1) := by decide +kernel
theorem dX12_wordOf_123 : decode cX12_wordOf 123 = .ok (.bipush 122, 2) := by decide +kernel
theorem dX12_wordOf_125 : decode cX12_wordOf 125 = .ok (.bipush 111, 2) := by decide +kernel
theorem dX12_wordOf_127 : decode cX12_wordOf 127 = .ok (.bipush 110, 2) := by decide +kernel
theorem dX12_wordOf_129 : decode cX12_wordOf 129 = .ok (.bipush 101, 2) := by decide +kernel
theorem dX12_wordOf_131 : decode cX12_wordOf 131 = .ok (.invokestatic 105, 3) := by decide +kernel
theorem dX12_wordOf_134 : decode cX12_wordOf 134 = .ok (.lcmp, 1) := by decide +kernel
theorem dX12_wordOf_135 : decode cX12_wordOf 135 = .ok (.ifCond .ne 6, 3) := by decide +kernel
theorem dX12_wordOf_138 : decode cX12_wordOf 138 = .ok (.bipush 6, 2) := by decide +kernel
theorem dX12_wordOf_140 : decode cX12_wordOf 140 = .ok (.ireturn, 1) := by decide +kernel
theorem dX12_wordOf_141 : decode cX12_wordOf 141 = .ok (.lload_n 0, 1) := by decide +kernel
theorem dX12_wordOf_142 : decode cX12_wordOf 142 = .ok (.bipush 115, 2) := by decide +kernel
theorem dX12_wordOf_144 : decode cX12_wordOf 144 = .ok (.bipush 111, 2) := by decide +kernel
theorem dX12_wordOf_146 : decode cX12_wordOf 146 = .ok (.bipush 114, 2) := by decide +kernel
theorem dX12_wordOf_148 : decode cX12_wordOf 148 = .ok (.bipush 116, 2) := by decide +kernel
theorem dX12_wordOf_150 : decode cX12_wordOf 150 = .ok (.invokestatic 105, 3) := by decide +kernel
theorem dX12_wordOf_153 : decode cX12_wordOf 153 = .ok (.lcmp, 1) := by decide +kernel
theorem dX12_wordOf_154 : decode cX12_wordOf 154 = .ok (.ifCond .ne 6, 3) := by decide +kernel
theorem dX12_wordOf_157 : decode cX12_wordOf 157 = .ok (.bipush 7, 2) := by decide +kernel
theorem dX12_wordOf_159 : decode cX12_wordOf 159 = .ok (.ireturn, 1) := by decide +kernel
theorem dX12_wordOf_160 : decode cX12_wordOf 160 = .ok (.lload_n 0, 1) := by decide +kernel
theorem dX12_wordOf_161 : decode cX12_wordOf 161 = .ok (.bipush 108, 2) := by decide +kernel
theorem dX12_wordOf_163 : decode cX12_wordOf 163 = .ok (.bipush 111, 2) := by decide +kernel
theorem dX12_wordOf_165 : decode cX12_wordOf 165 = .ok (.bipush 110, 2) := by decide +kernel
theorem dX12_wordOf_167 : decode cX12_wordOf 167 = .ok (.bipush 103, 2) := by decide +kernel
theorem dX12_wordOf_169 : decode cX12_wordOf 169 = .ok (.invokestatic 105, 3) := by decide +kernel
theorem dX12_wordOf_172 : decode cX12_wordOf 172 = .ok (.lcmp, 1) := by decide +kernel
theorem dX12_wordOf_173 : decode cX12_wordOf 173 = .ok (.ifCond .ne 6, 3) := by decide +kernel
theorem dX12_wordOf_176 : decode cX12_wordOf 176 = .ok (.bipush 8, 2) := by decide +kernel
theorem dX12_wordOf_178 : decode cX12_wordOf 178 = .ok (.ireturn, 1) := by decide +kernel
theorem dX12_wordOf_179 : decode cX12_wordOf 179 = .ok (.lload_n 0, 1) := by decide +kernel
theorem dX12_wordOf_180 : decode cX12_wordOf 180 = .ok (.bipush 119, 2) := by decide +kernel
theorem dX12_wordOf_182 : decode cX12_wordOf 182 = .ok (.bipush 101, 2) := by decide +kernel
theorem dX12_wordOf_184 : decode cX12_wordOf 184 = .ok (.bipush 101, 2) := by decide +kernel
theorem dX12_wordOf_186 : decode cX12_wordOf 186 = .ok (.bipush 107, 2) := by decide +kernel
theorem dX12_wordOf_188 : decode cX12_wordOf 188 = .ok (.invokestatic 105, 3) := by decide +kernel
theorem dX12_wordOf_191 : decode cX12_wordOf 191 = .ok (.lcmp, 1) := by decide +kernel
theorem dX12_wordOf_192 : decode cX12_wordOf 192 = .ok (.ifCond .ne 6, 3) := by decide +kernel
theorem dX12_wordOf_195 : decode cX12_wordOf 195 = .ok (.bipush 9, 2) := by decide +kernel
theorem dX12_wordOf_197 : decode cX12_wordOf 197 = .ok (.ireturn, 1) := by decide +kernel
theorem dX12_wordOf_198 : decode cX12_wordOf 198 = .ok (.lload_n 0, 1) := by decide +kernel
theorem dX12_wordOf_199 : decode cX12_wordOf 199 = .ok (.bipush 99, 2) := by decide +kernel
theorem dX12_wordOf_201 : decode cX12_wordOf 201 = .ok (.bipush 108, 2) := by decide +kernel
theorem dX12_wordOf_203 : decode cX12_wordOf 203 = .ok (.bipush 101, 2) := by decide +kernel
theorem dX12_wordOf_205 : decode cX12_wordOf 205 = .ok (.bipush 97, 2) := by decide +kernel
theorem dX12_wordOf_207 : decode cX12_wordOf 207 = .ok (.invokestatic 105, 3) := by decide +kernel
theorem dX12_wordOf_210 : decode cX12_wordOf 210 = .ok (.ldc2_w 95, 3) := by decide +kernel
theorem dX12_wordOf_213 : decode cX12_wordOf 213 = .ok (.lmul, 1) := by decide +kernel
theorem dX12_wordOf_214 : decode cX12_wordOf 214 = .ok (.ldc2_w 113, 3) := by decide +kernel
theorem dX12_wordOf_217 : decode cX12_wordOf 217 = .ok (.ladd, 1) := by decide +kernel
theorem dX12_wordOf_218 : decode cX12_wordOf 218 = .ok (.ldc2_w 97, 3) := by decide +kernel
theorem dX12_wordOf_221 : decode cX12_wordOf 221 = .ok (.lsub, 1) := by decide +kernel
theorem dX12_wordOf_222 : decode cX12_wordOf 222 = .ok (.lcmp, 1) := by decide +kernel
theorem dX12_wordOf_223 : decode cX12_wordOf 223 = .ok (.ifCond .ne 6, 3) := by decide +kernel
theorem dX12_wordOf_226 : decode cX12_wordOf 226 = .ok (.bipush 20, 2) := by decide +kernel
theorem dX12_wordOf_228 : decode cX12_wordOf 228 = .ok (.ireturn, 1) := by decide +kernel
theorem dX12_wordOf_229 : decode cX12_wordOf 229 = .ok (.lload_n 0, 1) := by decide +kernel
theorem dX12_wordOf_230 : decode cX12_wordOf 230 = .ok (.bipush 114, 2) := by decide +kernel
theorem dX12_wordOf_232 : decode cX12_wordOf 232 = .ok (.bipush 101, 2) := by decide +kernel
theorem dX12_wordOf_234 : decode cX12_wordOf 234 = .ok (.bipush 102, 2) := by decide +kernel
theorem dX12_wordOf_236 : decode cX12_wordOf 236 = .ok (.invokestatic 99, 3) := by decide +kernel
theorem dX12_wordOf_239 : decode cX12_wordOf 239 = .ok (.bipush 117, 2) := by decide +kernel
theorem dX12_wordOf_241 : decode cX12_wordOf 241 = .ok (.bipush 115, 2) := by decide +kernel
theorem dX12_wordOf_243 : decode cX12_wordOf 243 = .ok (.bipush 101, 2) := by decide +kernel
theorem dX12_wordOf_245 : decode cX12_wordOf 245 = .ok (.invokestatic 99, 3) := by decide +kernel
theorem dX12_wordOf_248 : decode cX12_wordOf 248 = .ok (.invokestatic 109, 3) := by decide +kernel
theorem dX12_wordOf_251 : decode cX12_wordOf 251 = .ok (.lcmp, 1) := by decide +kernel
theorem dX12_wordOf_252 : decode cX12_wordOf 252 = .ok (.ifCond .ne 6, 3) := by decide +kernel
theorem dX12_wordOf_255 : decode cX12_wordOf 255 = .ok (.bipush 21, 2) := by decide +kernel
theorem dX12_wordOf_257 : decode cX12_wordOf 257 = .ok (.ireturn, 1) := by decide +kernel
theorem dX12_wordOf_258 : decode cX12_wordOf 258 = .ok (.lload_n 0, 1) := by decide +kernel
theorem dX12_wordOf_259 : decode cX12_wordOf 259 = .ok (.bipush 112, 2) := by decide +kernel
theorem dX12_wordOf_261 : decode cX12_wordOf 261 = .ok (.bipush 97, 2) := by decide +kernel
theorem dX12_wordOf_263 : decode cX12_wordOf 263 = .ok (.bipush 121, 2) := by decide +kernel
theorem dX12_wordOf_265 : decode cX12_wordOf 265 = .ok (.invokestatic 99, 3) := by decide +kernel
theorem dX12_wordOf_268 : decode cX12_wordOf 268 = .ok (.lcmp, 1) := by decide +kernel
theorem dX12_wordOf_269 : decode cX12_wordOf 269 = .ok (.ifCond .ne 6, 3) := by decide +kernel
theorem dX12_wordOf_272 : decode cX12_wordOf 272 = .ok (.bipush 22, 2) := by decide +kernel
theorem dX12_wordOf_274 : decode cX12_wordOf 274 = .ok (.ireturn, 1) := by decide +kernel
theorem dX12_wordOf_275 : decode cX12_wordOf 275 = .ok (.lload_n 0, 1) := by decide +kernel
theorem dX12_wordOf_276 : decode cX12_wordOf 276 = .ok (.ldc2_w 115, 3) := by decide +kernel
theorem dX12_wordOf_279 : decode cX12_wordOf 279 = .ok (.lcmp, 1) := by decide +kernel
theorem dX12_wordOf_280 : decode cX12_wordOf 280 = .ok (.ifCond .ne 6, 3) := by decide +kernel
theorem dX12_wordOf_283 : decode cX12_wordOf 283 = .ok (.bipush 30, 2) := by decide +kernel
theorem dX12_wordOf_285 : decode cX12_wordOf 285 = .ok (.ireturn, 1) := by decide +kernel
theorem dX12_wordOf_286 : decode cX12_wordOf 286 = .ok (.lload_n 0, 1) := by decide +kernel
theorem dX12_wordOf_287 : decode cX12_wordOf 287 = .ok (.bipush 97, 2) := by decide +kernel
theorem dX12_wordOf_289 : decode cX12_wordOf 289 = .ok (.bipush 110, 2) := by decide +kernel
theorem dX12_wordOf_291 : decode cX12_wordOf 291 = .ok (.bipush 100, 2) := by decide +kernel
theorem dX12_wordOf_293 : decode cX12_wordOf 293 = .ok (.invokestatic 99, 3) := by decide +kernel
theorem dX12_wordOf_296 : decode cX12_wordOf 296 = .ok (.lcmp, 1) := by decide +kernel
theorem dX12_wordOf_297 : decode cX12_wordOf 297 = .ok (.ifCond .ne 6, 3) := by decide +kernel
theorem dX12_wordOf_300 : decode cX12_wordOf 300 = .ok (.bipush 31, 2) := by decide +kernel
theorem dX12_wordOf_302 : decode cX12_wordOf 302 = .ok (.ireturn, 1) := by decide +kernel
theorem dX12_wordOf_303 : decode cX12_wordOf 303 = .ok (.lload_n 0, 1) := by decide +kernel
theorem dX12_wordOf_304 : decode cX12_wordOf 304 = .ok (.bipush 110, 2) := by decide +kernel
theorem dX12_wordOf_306 : decode cX12_wordOf 306 = .ok (.bipush 111, 2) := by decide +kernel
theorem dX12_wordOf_308 : decode cX12_wordOf 308 = .ok (.bipush 116, 2) := by decide +kernel
theorem dX12_wordOf_310 : decode cX12_wordOf 310 = .ok (.invokestatic 99, 3) := by decide +kernel
theorem dX12_wordOf_313 : decode cX12_wordOf 313 = .ok (.lcmp, 1) := by decide +kernel
theorem dX12_wordOf_314 : decode cX12_wordOf 314 = .ok (.ifCond .ne 6, 3) := by decide +kernel
theorem dX12_wordOf_317 : decode cX12_wordOf 317 = .ok (.bipush 32, 2) := by decide +kernel
theorem dX12_wordOf_319 : decode cX12_wordOf 319 = .ok (.ireturn, 1) := by decide +kernel
theorem dX12_wordOf_320 : decode cX12_wordOf 320 = .ok (.bipush 99, 2) := by decide +kernel
theorem dX12_wordOf_322 : decode cX12_wordOf 322 = .ok (.ireturn, 1) := by decide +kernel
set_option maxRecDepth 100000 in
set_option maxHeartbeats 4000000 in
theorem k_wordOf (l : Launch) {D : va_G} {cI cZ : ClassId} {a0 : Nat} (σ : Nat → Nat → Int) (v : Int) (r_v : -1000000000000 ≤ v ∧ v ≤ 1000000000000) : moM l D cI cZ a0 yX12_wordOf cX12_wordOf 2 (some .int) 2 45 [.long (lz v)] σ (some (.int (iz (wrd v)))) (σ) := by
  refine mo_start (by decide) rfl (Nat.le_of_ble_eq_true rfl) ?_
  intro p e s m args below meth c C K hr hlk
  refine hv_lload_n C 0 0 dX12_wordOf_0 rfl rfl ?_
  refine hv_bipush C dX12_wordOf_1 (by decide) ?_
  refine hv_bipush C dX12_wordOf_3 (by decide) ?_
  refine hv_bipush C dX12_wordOf_5 (by decide) ?_
  refine hv_bipush C dX12_wordOf_7 (by decide) ?_
  refine mo_callS [.int (iz 115), .int (iz 111), .int (iz 108), .int (iz 100)] [.long (lz v)] C K (k_four l σ 115 111 108 100 (by omega) (by omega) (by omega) (by omega)) ck_four (by decide) rfl (Nat.le_of_ble_eq_true rfl) dX12_wordOf_9 ?_
  refine hv_lcmp C (by omega) (by omega) dX12_wordOf_12 ?_
  refine hv_cif_ne C 18 dX12_wordOf_13 (by decide)  (fun h13 => ?_) (fun h13 => ?_)
  · skip
    refine hv_lload_n C 0 0 dX12_wordOf_18 rfl rfl ?_
    refine hv_bipush C dX12_wordOf_19 (by decide) ?_
    refine hv_bipush C dX12_wordOf_21 (by decide) ?_
    refine hv_bipush C dX12_wordOf_23 (by decide) ?_
    refine mo_callS [.int (iz 115), .int (iz 117), .int (iz 109)] [.long (lz v)] C K (k_three l σ 115 117 109 (by omega) (by omega) (by omega)) ck_three (by decide) rfl (Nat.le_of_ble_eq_true rfl) dX12_wordOf_25 ?_
    refine hv_bipush C dX12_wordOf_28 (by decide) ?_
    refine hv_bipush C dX12_wordOf_30 (by decide) ?_
    refine hv_bipush C dX12_wordOf_32 (by decide) ?_
    refine mo_callS [.int (iz 109), .int (iz 101), .int (iz 114)] [.long (lz ((((((32 * (115 - 96)) + 117) - 96) * 32) + 109) - 96)), .long (lz v)] C K (k_three l σ 109 101 114 (by omega) (by omega) (by omega)) ck_three (by decide) rfl (Nat.le_of_ble_eq_true rfl) dX12_wordOf_34 ?_
    refine mo_callS [.long (lz ((((((32 * (115 - 96)) + 117) - 96) * 32) + 109) - 96)), .long (lz ((((((32 * (109 - 96)) + 101) - 96) * 32) + 114) - 96))] [.long (lz v)] C K (k_six l σ ((((((32 * (115 - 96)) + 117) - 96) * 32) + 109) - 96) ((((((32 * (109 - 96)) + 101) - 96) * 32) + 114) - 96) ) ck_six (by decide) rfl (Nat.le_of_ble_eq_true rfl) dX12_wordOf_37 ?_
    refine hv_lcmp C (by omega) (by omega) dX12_wordOf_40 ?_
    refine hv_cif_ne C 46 dX12_wordOf_41 (by decide)  (fun h41 => ?_) (fun h41 => ?_)
    · skip
      refine hv_lload_n C 0 0 dX12_wordOf_46 rfl rfl ?_
      refine hv_bipush C dX12_wordOf_47 (by decide) ?_
      refine hv_bipush C dX12_wordOf_49 (by decide) ?_
      refine hv_bipush C dX12_wordOf_51 (by decide) ?_
      refine hv_bipush C dX12_wordOf_53 (by decide) ?_
      refine mo_callS [.int (iz 115), .int (iz 108), .int (iz 111), .int (iz 116)] [.long (lz v)] C K (k_four l σ 115 108 111 116 (by omega) (by omega) (by omega) (by omega)) ck_four (by decide) rfl (Nat.le_of_ble_eq_true rfl) dX12_wordOf_55 ?_
      refine hv_lcmp C (by omega) (by omega) dX12_wordOf_58 ?_
      refine hv_cif_ne C 64 dX12_wordOf_59 (by decide)  (fun h59 => ?_) (fun h59 => ?_)
      · skip
        refine hv_lload_n C 0 0 dX12_wordOf_64 rfl rfl ?_
        refine hv_bipush C dX12_wordOf_65 (by decide) ?_
        refine hv_bipush C dX12_wordOf_67 (by decide) ?_
        refine hv_bipush C dX12_wordOf_69 (by decide) ?_
        refine hv_bipush C dX12_wordOf_71 (by decide) ?_
        refine mo_callS [.int (iz 112), .int (iz 111), .int (iz 119), .int (iz 101)] [.long (lz v)] C K (k_four l σ 112 111 119 101 (by omega) (by omega) (by omega) (by omega)) ck_four (by decide) rfl (Nat.le_of_ble_eq_true rfl) dX12_wordOf_73 ?_
        refine hv_ldc2 C (n := 32) lc_95 rfl dX12_wordOf_76 ?_
        refine hv_lmul C dX12_wordOf_79 ?_
        refine hv_ldc2 C (n := 114) lc_113 rfl dX12_wordOf_80 ?_
        refine hv_ladd C dX12_wordOf_83 ?_
        refine hv_ldc2 C (n := 96) lc_97 rfl dX12_wordOf_84 ?_
        refine hv_lsub C dX12_wordOf_87 ?_
        refine hv_lcmp C (by omega) (by omega) dX12_wordOf_88 ?_
        refine hv_cif_ne C 94 dX12_wordOf_89 (by decide)  (fun h89 => ?_) (fun h89 => ?_)
        · skip
          refine hv_lload_n C 0 0 dX12_wordOf_94 rfl rfl ?_
          refine hv_bipush C dX12_wordOf_95 (by decide) ?_
          refine hv_bipush C dX12_wordOf_97 (by decide) ?_
          refine hv_bipush C dX12_wordOf_99 (by decide) ?_
          refine mo_callS [.int (iz 110), .int (iz 111), .int (iz 116)] [.long (lz v)] C K (k_three l σ 110 111 116 (by omega) (by omega) (by omega)) ck_three (by decide) rfl (Nat.le_of_ble_eq_true rfl) dX12_wordOf_101 ?_
          refine hv_bipush C dX12_wordOf_104 (by decide) ?_
          refine hv_bipush C dX12_wordOf_106 (by decide) ?_
          refine hv_bipush C dX12_wordOf_108 (by decide) ?_
          refine mo_callS [.int (iz 105), .int (iz 99), .int (iz 101)] [.long (lz ((((((32 * (110 - 96)) + 111) - 96) * 32) + 116) - 96)), .long (lz v)] C K (k_three l σ 105 99 101 (by omega) (by omega) (by omega)) ck_three (by decide) rfl (Nat.le_of_ble_eq_true rfl) dX12_wordOf_110 ?_
          refine mo_callS [.long (lz ((((((32 * (110 - 96)) + 111) - 96) * 32) + 116) - 96)), .long (lz ((((((32 * (105 - 96)) + 99) - 96) * 32) + 101) - 96))] [.long (lz v)] C K (k_six l σ ((((((32 * (110 - 96)) + 111) - 96) * 32) + 116) - 96) ((((((32 * (105 - 96)) + 99) - 96) * 32) + 101) - 96) ) ck_six (by decide) rfl (Nat.le_of_ble_eq_true rfl) dX12_wordOf_113 ?_
          refine hv_lcmp C (by omega) (by omega) dX12_wordOf_116 ?_
          refine hv_cif_ne C 122 dX12_wordOf_117 (by decide)  (fun h117 => ?_) (fun h117 => ?_)
          · skip
            refine hv_lload_n C 0 0 dX12_wordOf_122 rfl rfl ?_
            refine hv_bipush C dX12_wordOf_123 (by decide) ?_
            refine hv_bipush C dX12_wordOf_125 (by decide) ?_
            refine hv_bipush C dX12_wordOf_127 (by decide) ?_
            refine hv_bipush C dX12_wordOf_129 (by decide) ?_
            refine mo_callS [.int (iz 122), .int (iz 111), .int (iz 110), .int (iz 101)] [.long (lz v)] C K (k_four l σ 122 111 110 101 (by omega) (by omega) (by omega) (by omega)) ck_four (by decide) rfl (Nat.le_of_ble_eq_true rfl) dX12_wordOf_131 ?_
            refine hv_lcmp C (by omega) (by omega) dX12_wordOf_134 ?_
            refine hv_cif_ne C 141 dX12_wordOf_135 (by decide)  (fun h135 => ?_) (fun h135 => ?_)
            · skip
              refine hv_lload_n C 0 0 dX12_wordOf_141 rfl rfl ?_
              refine hv_bipush C dX12_wordOf_142 (by decide) ?_
              refine hv_bipush C dX12_wordOf_144 (by decide) ?_
              refine hv_bipush C dX12_wordOf_146 (by decide) ?_
              refine hv_bipush C dX12_wordOf_148 (by decide) ?_
              refine mo_callS [.int (iz 115), .int (iz 111), .int (iz 114), .int (iz 116)] [.long (lz v)] C K (k_four l σ 115 111 114 116 (by omega) (by omega) (by omega) (by omega)) ck_four (by decide) rfl (Nat.le_of_ble_eq_true rfl) dX12_wordOf_150 ?_
              refine hv_lcmp C (by omega) (by omega) dX12_wordOf_153 ?_
              refine hv_cif_ne C 160 dX12_wordOf_154 (by decide)  (fun h154 => ?_) (fun h154 => ?_)
              · skip
                refine hv_lload_n C 0 0 dX12_wordOf_160 rfl rfl ?_
                refine hv_bipush C dX12_wordOf_161 (by decide) ?_
                refine hv_bipush C dX12_wordOf_163 (by decide) ?_
                refine hv_bipush C dX12_wordOf_165 (by decide) ?_
                refine hv_bipush C dX12_wordOf_167 (by decide) ?_
                refine mo_callS [.int (iz 108), .int (iz 111), .int (iz 110), .int (iz 103)] [.long (lz v)] C K (k_four l σ 108 111 110 103 (by omega) (by omega) (by omega) (by omega)) ck_four (by decide) rfl (Nat.le_of_ble_eq_true rfl) dX12_wordOf_169 ?_
                refine hv_lcmp C (by omega) (by omega) dX12_wordOf_172 ?_
                refine hv_cif_ne C 179 dX12_wordOf_173 (by decide)  (fun h173 => ?_) (fun h173 => ?_)
                · skip
                  refine hv_lload_n C 0 0 dX12_wordOf_179 rfl rfl ?_
                  refine hv_bipush C dX12_wordOf_180 (by decide) ?_
                  refine hv_bipush C dX12_wordOf_182 (by decide) ?_
                  refine hv_bipush C dX12_wordOf_184 (by decide) ?_
                  refine hv_bipush C dX12_wordOf_186 (by decide) ?_
                  refine mo_callS [.int (iz 119), .int (iz 101), .int (iz 101), .int (iz 107)] [.long (lz v)] C K (k_four l σ 119 101 101 107 (by omega) (by omega) (by omega) (by omega)) ck_four (by decide) rfl (Nat.le_of_ble_eq_true rfl) dX12_wordOf_188 ?_
                  refine hv_lcmp C (by omega) (by omega) dX12_wordOf_191 ?_
                  refine hv_cif_ne C 198 dX12_wordOf_192 (by decide)  (fun h192 => ?_) (fun h192 => ?_)
                  · skip
                    refine hv_lload_n C 0 0 dX12_wordOf_198 rfl rfl ?_
                    refine hv_bipush C dX12_wordOf_199 (by decide) ?_
                    refine hv_bipush C dX12_wordOf_201 (by decide) ?_
                    refine hv_bipush C dX12_wordOf_203 (by decide) ?_
                    refine hv_bipush C dX12_wordOf_205 (by decide) ?_
                    refine mo_callS [.int (iz 99), .int (iz 108), .int (iz 101), .int (iz 97)] [.long (lz v)] C K (k_four l σ 99 108 101 97 (by omega) (by omega) (by omega) (by omega)) ck_four (by decide) rfl (Nat.le_of_ble_eq_true rfl) dX12_wordOf_207 ?_
                    refine hv_ldc2 C (n := 32) lc_95 rfl dX12_wordOf_210 ?_
                    refine hv_lmul C dX12_wordOf_213 ?_
                    refine hv_ldc2 C (n := 114) lc_113 rfl dX12_wordOf_214 ?_
                    refine hv_ladd C dX12_wordOf_217 ?_
                    refine hv_ldc2 C (n := 96) lc_97 rfl dX12_wordOf_218 ?_
                    refine hv_lsub C dX12_wordOf_221 ?_
                    refine hv_lcmp C (by omega) (by omega) dX12_wordOf_222 ?_
                    refine hv_cif_ne C 229 dX12_wordOf_223 (by decide)  (fun h223 => ?_) (fun h223 => ?_)
                    · skip
                      refine hv_lload_n C 0 0 dX12_wordOf_229 rfl rfl ?_
                      refine hv_bipush C dX12_wordOf_230 (by decide) ?_
                      refine hv_bipush C dX12_wordOf_232 (by decide) ?_
                      refine hv_bipush C dX12_wordOf_234 (by decide) ?_
                      refine mo_callS [.int (iz 114), .int (iz 101), .int (iz 102)] [.long (lz v)] C K (k_three l σ 114 101 102 (by omega) (by omega) (by omega)) ck_three (by decide) rfl (Nat.le_of_ble_eq_true rfl) dX12_wordOf_236 ?_
                      refine hv_bipush C dX12_wordOf_239 (by decide) ?_
                      refine hv_bipush C dX12_wordOf_241 (by decide) ?_
                      refine hv_bipush C dX12_wordOf_243 (by decide) ?_
                      refine mo_callS [.int (iz 117), .int (iz 115), .int (iz 101)] [.long (lz ((((((32 * (114 - 96)) + 101) - 96) * 32) + 102) - 96)), .long (lz v)] C K (k_three l σ 117 115 101 (by omega) (by omega) (by omega)) ck_three (by decide) rfl (Nat.le_of_ble_eq_true rfl) dX12_wordOf_245 ?_
                      refine mo_callS [.long (lz ((((((32 * (114 - 96)) + 101) - 96) * 32) + 102) - 96)), .long (lz ((((((32 * (117 - 96)) + 115) - 96) * 32) + 101) - 96))] [.long (lz v)] C K (k_six l σ ((((((32 * (114 - 96)) + 101) - 96) * 32) + 102) - 96) ((((((32 * (117 - 96)) + 115) - 96) * 32) + 101) - 96) ) ck_six (by decide) rfl (Nat.le_of_ble_eq_true rfl) dX12_wordOf_248 ?_
                      refine hv_lcmp C (by omega) (by omega) dX12_wordOf_251 ?_
                      refine hv_cif_ne C 258 dX12_wordOf_252 (by decide)  (fun h252 => ?_) (fun h252 => ?_)
                      · skip
                        refine hv_lload_n C 0 0 dX12_wordOf_258 rfl rfl ?_
                        refine hv_bipush C dX12_wordOf_259 (by decide) ?_
                        refine hv_bipush C dX12_wordOf_261 (by decide) ?_
                        refine hv_bipush C dX12_wordOf_263 (by decide) ?_
                        refine mo_callS [.int (iz 112), .int (iz 97), .int (iz 121)] [.long (lz v)] C K (k_three l σ 112 97 121 (by omega) (by omega) (by omega)) ck_three (by decide) rfl (Nat.le_of_ble_eq_true rfl) dX12_wordOf_265 ?_
                        refine hv_lcmp C (by omega) (by omega) dX12_wordOf_268 ?_
                        refine hv_cif_ne C 275 dX12_wordOf_269 (by decide)  (fun h269 => ?_) (fun h269 => ?_)
                        · skip
                          refine hv_lload_n C 0 0 dX12_wordOf_275 rfl rfl ?_
                          refine hv_ldc2 C (n := 294) lc_115 rfl dX12_wordOf_276 ?_
                          refine hv_lcmp C (by omega) (by omega) dX12_wordOf_279 ?_
                          refine hv_cif_ne C 286 dX12_wordOf_280 (by decide)  (fun h280 => ?_) (fun h280 => ?_)
                          · skip
                            refine hv_lload_n C 0 0 dX12_wordOf_286 rfl rfl ?_
                            refine hv_bipush C dX12_wordOf_287 (by decide) ?_
                            refine hv_bipush C dX12_wordOf_289 (by decide) ?_
                            refine hv_bipush C dX12_wordOf_291 (by decide) ?_
                            refine mo_callS [.int (iz 97), .int (iz 110), .int (iz 100)] [.long (lz v)] C K (k_three l σ 97 110 100 (by omega) (by omega) (by omega)) ck_three (by decide) rfl (Nat.le_of_ble_eq_true rfl) dX12_wordOf_293 ?_
                            refine hv_lcmp C (by omega) (by omega) dX12_wordOf_296 ?_
                            refine hv_cif_ne C 303 dX12_wordOf_297 (by decide)  (fun h297 => ?_) (fun h297 => ?_)
                            · skip
                              refine hv_lload_n C 0 0 dX12_wordOf_303 rfl rfl ?_
                              refine hv_bipush C dX12_wordOf_304 (by decide) ?_
                              refine hv_bipush C dX12_wordOf_306 (by decide) ?_
                              refine hv_bipush C dX12_wordOf_308 (by decide) ?_
                              refine mo_callS [.int (iz 110), .int (iz 111), .int (iz 116)] [.long (lz v)] C K (k_three l σ 110 111 116 (by omega) (by omega) (by omega)) ck_three (by decide) rfl (Nat.le_of_ble_eq_true rfl) dX12_wordOf_310 ?_
                              refine hv_lcmp C (by omega) (by omega) dX12_wordOf_313 ?_
                              refine hv_cif_ne C 320 dX12_wordOf_314 (by decide)  (fun h314 => ?_) (fun h314 => ?_)
                              · skip
                                refine hv_bipush C dX12_wordOf_320 (by decide) ?_
                                exact mo_iret (Qc := fun _ _ _ _ => True) C hr hlk (by unfold wrd; repeat (first | (rw [if_pos (by omega)]; done) | rw [if_neg (by omega)])) rfl dX12_wordOf_322
                              · skip
                                refine hv_bipush C dX12_wordOf_317 (by decide) ?_
                                exact mo_iret (Qc := fun _ _ _ _ => True) C hr hlk (by unfold wrd; repeat (first | (rw [if_pos (by omega)]; done) | rw [if_neg (by omega)])) rfl dX12_wordOf_319
                            · skip
                              refine hv_bipush C dX12_wordOf_300 (by decide) ?_
                              exact mo_iret (Qc := fun _ _ _ _ => True) C hr hlk (by unfold wrd; repeat (first | (rw [if_pos (by omega)]; done) | rw [if_neg (by omega)])) rfl dX12_wordOf_302
                          · skip
                            refine hv_bipush C dX12_wordOf_283 (by decide) ?_
                            exact mo_iret (Qc := fun _ _ _ _ => True) C hr hlk (by unfold wrd; repeat (first | (rw [if_pos (by omega)]; done) | rw [if_neg (by omega)])) rfl dX12_wordOf_285
                        · skip
                          refine hv_bipush C dX12_wordOf_272 (by decide) ?_
                          exact mo_iret (Qc := fun _ _ _ _ => True) C hr hlk (by unfold wrd; repeat (first | (rw [if_pos (by omega)]; done) | rw [if_neg (by omega)])) rfl dX12_wordOf_274
                      · skip
                        refine hv_bipush C dX12_wordOf_255 (by decide) ?_
                        exact mo_iret (Qc := fun _ _ _ _ => True) C hr hlk (by unfold wrd; repeat (first | (rw [if_pos (by omega)]; done) | rw [if_neg (by omega)])) rfl dX12_wordOf_257
                    · skip
                      refine hv_bipush C dX12_wordOf_226 (by decide) ?_
                      exact mo_iret (Qc := fun _ _ _ _ => True) C hr hlk (by unfold wrd; repeat (first | (rw [if_pos (by omega)]; done) | rw [if_neg (by omega)])) rfl dX12_wordOf_228
                  · skip
                    refine hv_bipush C dX12_wordOf_195 (by decide) ?_
                    exact mo_iret (Qc := fun _ _ _ _ => True) C hr hlk (by unfold wrd; repeat (first | (rw [if_pos (by omega)]; done) | rw [if_neg (by omega)])) rfl dX12_wordOf_197
                · skip
                  refine hv_bipush C dX12_wordOf_176 (by decide) ?_
                  exact mo_iret (Qc := fun _ _ _ _ => True) C hr hlk (by unfold wrd; repeat (first | (rw [if_pos (by omega)]; done) | rw [if_neg (by omega)])) rfl dX12_wordOf_178
              · skip
                refine hv_bipush C dX12_wordOf_157 (by decide) ?_
                exact mo_iret (Qc := fun _ _ _ _ => True) C hr hlk (by unfold wrd; repeat (first | (rw [if_pos (by omega)]; done) | rw [if_neg (by omega)])) rfl dX12_wordOf_159
            · skip
              refine hv_bipush C dX12_wordOf_138 (by decide) ?_
              exact mo_iret (Qc := fun _ _ _ _ => True) C hr hlk (by unfold wrd; repeat (first | (rw [if_pos (by omega)]; done) | rw [if_neg (by omega)])) rfl dX12_wordOf_140
          · skip
            refine hv_iconst C dX12_wordOf_120 ?_
            exact mo_iret (Qc := fun _ _ _ _ => True) C hr hlk (by unfold wrd; repeat (first | (rw [if_pos (by omega)]; done) | rw [if_neg (by omega)])) rfl dX12_wordOf_121
        · skip
          refine hv_iconst C dX12_wordOf_92 ?_
          exact mo_iret (Qc := fun _ _ _ _ => True) C hr hlk (by unfold wrd; repeat (first | (rw [if_pos (by omega)]; done) | rw [if_neg (by omega)])) rfl dX12_wordOf_93
      · skip
        refine hv_iconst C dX12_wordOf_62 ?_
        exact mo_iret (Qc := fun _ _ _ _ => True) C hr hlk (by unfold wrd; repeat (first | (rw [if_pos (by omega)]; done) | rw [if_neg (by omega)])) rfl dX12_wordOf_63
    · skip
      refine hv_iconst C dX12_wordOf_44 ?_
      exact mo_iret (Qc := fun _ _ _ _ => True) C hr hlk (by unfold wrd; repeat (first | (rw [if_pos (by omega)]; done) | rw [if_neg (by omega)])) rfl dX12_wordOf_45
  · skip
    refine hv_iconst C dX12_wordOf_16 ?_
    exact mo_iret (Qc := fun _ _ _ _ => True) C hr hlk (by unfold wrd; repeat (first | (rw [if_pos (by omega)]; done) | rw [if_neg (by omega)])) rfl dX12_wordOf_17
