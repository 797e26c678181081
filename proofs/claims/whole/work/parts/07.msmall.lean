def rg (σ : Nat → Nat → Int) : Prop := ∀ j i, inI (σ j i)

theorem dX12_isIn_0 : decode cX12_isIn 0 = .ok (.iload_n 0, 1) := by decide +kernel
theorem dX12_isIn_1 : decode cX12_isIn 1 = .ok (.iload_n 1, 1) := by decide +kernel
theorem dX12_isIn_2 : decode cX12_isIn 2 = .ok (.if_icmp .lt 12, 3) := by decide +kernel
theorem dX12_isIn_5 : decode cX12_isIn 5 = .ok (.iload_n 0, 1) := by decide +kernel
theorem dX12_isIn_6 : decode cX12_isIn 6 = .ok (.iload_n 2, 1) := by decide +kernel
theorem dX12_isIn_7 : decode cX12_isIn 7 = .ok (.if_icmp .gt 7, 3) := by decide +kernel
theorem dX12_isIn_10 : decode cX12_isIn 10 = .ok (.iconst 1, 1) := by decide +kernel
theorem dX12_isIn_11 : decode cX12_isIn 11 = .ok (.goto 4, 3) := by decide +kernel
theorem dX12_isIn_14 : decode cX12_isIn 14 = .ok (.iconst 0, 1) := by decide +kernel
theorem dX12_isIn_15 : decode cX12_isIn 15 = .ok (.ireturn, 1) := by decide +kernel
set_option maxRecDepth 100000 in
set_option maxHeartbeats 4000000 in
theorem k_isIn (l : Launch) {D : va_G} {cI cZ : ClassId} {a0 : Nat} (σ : Nat → Nat → Int) (v : Int) (least : Int) (most : Int) (r_v : inI v) (r_least : inI least) (r_most : inI most) : moM l D cI cZ a0 yX12_isIn cX12_isIn 3 (some .boolean) 0 0 [.int (iz v), .int (iz least), .int (iz most)] σ (some (.int (iz (xb (decide (least ≤ v ∧ v ≤ most)))))) (σ) := by
  refine mo_start (by decide) rfl (Nat.le_of_ble_eq_true rfl) ?_
  intro p e s m args below meth c C K hr hlk
  refine hv_iload_n C 0 0 dX12_isIn_0 rfl rfl ?_
  refine hv_iload_n C 1 1 dX12_isIn_1 rfl rfl ?_
  refine hv_icmp_lt C 14 dX12_isIn_2 (by decide) (by omega) (by omega) (fun h2 => ?_) (fun h2 => ?_)
  · skip
    refine hv_iconst C dX12_isIn_14 ?_
    exact mo_zret (Qc := fun _ _ _ _ => True) C hr hlk ((xb_f (decide_eq_false (by omega))).symm) rfl dX12_isIn_15
  · skip
    refine hv_iload_n C 0 0 dX12_isIn_5 rfl rfl ?_
    refine hv_iload_n C 2 2 dX12_isIn_6 rfl rfl ?_
    refine hv_icmp_gt C 14 dX12_isIn_7 (by decide) (by omega) (by omega) (fun h7 => ?_) (fun h7 => ?_)
    · skip
      refine hv_iconst C dX12_isIn_14 ?_
      exact mo_zret (Qc := fun _ _ _ _ => True) C hr hlk ((xb_f (decide_eq_false (by omega))).symm) rfl dX12_isIn_15
    · skip
      refine hv_iconst C dX12_isIn_10 ?_
      refine hv_goto C 15 dX12_isIn_11 (by decide) ?_
      exact mo_zret (Qc := fun _ _ _ _ => True) C hr hlk ((xb_t (decide_eq_true (by omega))).symm) rfl dX12_isIn_15
theorem dX12_isOf_0 : decode cX12_isOf 0 = .ok (.iload_n 1, 1) := by decide +kernel
theorem dX12_isOf_1 : decode cX12_isOf 1 = .ok (.iconst 0, 1) := by decide +kernel
theorem dX12_isOf_2 : decode cX12_isOf 2 = .ok (.aload_n 0, 1) := by decide +kernel
theorem dX12_isOf_3 : decode cX12_isOf 3 = .ok (.getfield 7, 3) := by decide +kernel
theorem dX12_isOf_6 : decode cX12_isOf 6 = .ok (.iload_n 2, 1) := by decide +kernel
theorem dX12_isOf_7 : decode cX12_isOf 7 = .ok (.iaload, 1) := by decide +kernel
theorem dX12_isOf_8 : decode cX12_isOf 8 = .ok (.iconst 1, 1) := by decide +kernel
theorem dX12_isOf_9 : decode cX12_isOf 9 = .ok (.isub, 1) := by decide +kernel
theorem dX12_isOf_10 : decode cX12_isOf 10 = .ok (.invokestatic 59, 3) := by decide +kernel
theorem dX12_isOf_13 : decode cX12_isOf 13 = .ok (.ireturn, 1) := by decide +kernel
set_option maxRecDepth 100000 in
set_option maxHeartbeats 4000000 in
theorem k_isOf (l : Launch) {D : va_G} {cI cZ : ClassId} {a0 : Nat} (σ : Nat → Nat → Int) (k : Int) (many : Nat) (hσ : rg σ) (r_k : inI k) (hm : many < 9040) (h0 : 0 ≤ σ 1 many) : moM l D cI cZ a0 yX12_isOf cX12_isOf 3 (some .boolean) 1 22 [.ref a0, .int (iz k), .int (iz ((many : Nat) : Int))] σ (some (.int (iz (xb (decide (0 ≤ k ∧ k ≤ σ 1 many - 1)))))) (σ) := by
  refine mo_start (by decide) rfl (Nat.le_of_ble_eq_true rfl) ?_
  intro p e s m args below meth c C K hr hlk
  refine hv_iload_n C 1 1 dX12_isOf_0 rfl rfl ?_
  refine hv_iconst C dX12_isOf_1 ?_
  refine hv_aload_n C 0 0 dX12_isOf_2 rfl rfl ?_
  refine mo_geta C K 0 1 (by decide) rfl mo_hw fl_7 rfl dX12_isOf_3 ?_
  refine hv_iload_n C 2 2 dX12_isOf_6 rfl rfl ?_
  refine mo_iald C K 1 9040 many rfl (by omega) (by omega) (by decide) dX12_isOf_7 ?_
  refine hv_nm (fun x1 ex1 => ?_)
  have rx1 : inI x1 := by rw [ex1]; exact hσ 1 many
  refine hv_iconst C dX12_isOf_8 ?_
  refine hv_isub C dX12_isOf_9 ?_
  refine mo_callS [.int (iz k), .int (iz 0), .int (iz (x1 - 1))] [] C K (k_isIn l σ k 0 (x1 - 1) (by omega) (by omega) (by omega)) ck_isIn (by decide) rfl (by decide) dX12_isOf_10 ?_
  exact mo_zret (Qc := fun _ _ _ _ => True) C hr hlk ((congrArg xb (decide_eq_decide.mpr (by omega)))) rfl dX12_isOf_13
theorem dX12_isDay_0 : decode cX12_isDay 0 = .ok (.iload_n 0, 1) := by decide +kernel
theorem dX12_isDay_1 : decode cX12_isDay 1 = .ok (.iconst 0, 1) := by decide +kernel
theorem dX12_isDay_2 : decode cX12_isDay 2 = .ok (.sipush 199, 3) := by decide +kernel
theorem dX12_isDay_5 : decode cX12_isDay 5 = .ok (.invokestatic 59, 3) := by decide +kernel
theorem dX12_isDay_8 : decode cX12_isDay 8 = .ok (.ireturn, 1) := by decide +kernel
set_option maxRecDepth 100000 in
set_option maxHeartbeats 4000000 in
theorem k_isDay (l : Launch) {D : va_G} {cI cZ : ClassId} {a0 : Nat} (σ : Nat → Nat → Int) (d : Int) (r_d : inI d) : moM l D cI cZ a0 yX12_isDay cX12_isDay 1 (some .boolean) 1 22 [.int (iz d)] σ (some (.int (iz (xb (decide (0 ≤ d ∧ d ≤ 199)))))) (σ) := by
  refine mo_start (by decide) rfl (Nat.le_of_ble_eq_true rfl) ?_
  intro p e s m args below meth c C K hr hlk
  refine hv_iload_n C 0 0 dX12_isDay_0 rfl rfl ?_
  refine hv_iconst C dX12_isDay_1 ?_
  refine hv_sipush C dX12_isDay_2 (by decide) ?_
  refine mo_callS [.int (iz d), .int (iz 0), .int (iz 199)] [] C K (k_isIn l σ d 0 199 (by omega) (by omega) (by omega)) ck_isIn (by decide) rfl (by decide) dX12_isDay_5 ?_
  exact mo_zret (Qc := fun _ _ _ _ => True) C hr hlk (rfl) rfl dX12_isDay_8
theorem dX12_isSlot_0 : decode cX12_isSlot 0 = .ok (.iload_n 0, 1) := by decide +kernel
theorem dX12_isSlot_1 : decode cX12_isSlot 1 = .ok (.iconst 0, 1) := by decide +kernel
theorem dX12_isSlot_2 : decode cX12_isSlot 2 = .ok (.bipush 47, 2) := by decide +kernel
theorem dX12_isSlot_4 : decode cX12_isSlot 4 = .ok (.invokestatic 59, 3) := by decide +kernel
theorem dX12_isSlot_7 : decode cX12_isSlot 7 = .ok (.ireturn, 1) := by decide +kernel
set_option maxRecDepth 100000 in
set_option maxHeartbeats 4000000 in
theorem k_isSlot (l : Launch) {D : va_G} {cI cZ : ClassId} {a0 : Nat} (σ : Nat → Nat → Int) (d : Int) (r_d : inI d) : moM l D cI cZ a0 yX12_isSlot cX12_isSlot 1 (some .boolean) 1 22 [.int (iz d)] σ (some (.int (iz (xb (decide (0 ≤ d ∧ d ≤ 47)))))) (σ) := by
  refine mo_start (by decide) rfl (Nat.le_of_ble_eq_true rfl) ?_
  intro p e s m args below meth c C K hr hlk
  refine hv_iload_n C 0 0 dX12_isSlot_0 rfl rfl ?_
  refine hv_iconst C dX12_isSlot_1 ?_
  refine hv_bipush C dX12_isSlot_2 (by decide) ?_
  refine mo_callS [.int (iz d), .int (iz 0), .int (iz 47)] [] C K (k_isIn l σ d 0 47 (by omega) (by omega) (by omega)) ck_isIn (by decide) rfl (by decide) dX12_isSlot_4 ?_
  exact mo_zret (Qc := fun _ _ _ _ => True) C hr hlk (rfl) rfl dX12_isSlot_7
theorem dX12_isSeen_0 : decode cX12_isSeen 0 = .ok (.aload_n 0, 1) := by decide +kernel
theorem dX12_isSeen_1 : decode cX12_isSeen 1 = .ok (.getfield 7, 3) := by decide +kernel
theorem dX12_isSeen_4 : decode cX12_isSeen 4 = .ok (.bipush 9, 2) := by decide +kernel
theorem dX12_isSeen_6 : decode cX12_isSeen 6 = .ok (.iaload, 1) := by decide +kernel
theorem dX12_isSeen_7 : decode cX12_isSeen 7 = .ok (.iconst (-1), 1) := by decide +kernel
theorem dX12_isSeen_8 : decode cX12_isSeen 8 = .ok (.if_icmp .eq 14, 3) := by decide +kernel
theorem dX12_isSeen_11 : decode cX12_isSeen 11 = .ok (.iload_n 1, 1) := by decide +kernel
theorem dX12_isSeen_12 : decode cX12_isSeen 12 = .ok (.aload_n 0, 1) := by decide +kernel
theorem dX12_isSeen_13 : decode cX12_isSeen 13 = .ok (.getfield 7, 3) := by decide +kernel
theorem dX12_isSeen_16 : decode cX12_isSeen 16 = .ok (.bipush 9, 2) := by decide +kernel
theorem dX12_isSeen_18 : decode cX12_isSeen 18 = .ok (.iaload, 1) := by decide +kernel
theorem dX12_isSeen_19 : decode cX12_isSeen 19 = .ok (.if_icmp .gt 7, 3) := by decide +kernel
theorem dX12_isSeen_22 : decode cX12_isSeen 22 = .ok (.iconst 1, 1) := by decide +kernel
theorem dX12_isSeen_23 : decode cX12_isSeen 23 = .ok (.goto 4, 3) := by decide +kernel
theorem dX12_isSeen_26 : decode cX12_isSeen 26 = .ok (.iconst 0, 1) := by decide +kernel
theorem dX12_isSeen_27 : decode cX12_isSeen 27 = .ok (.ireturn, 1) := by decide +kernel
set_option maxRecDepth 100000 in
set_option maxHeartbeats 4000000 in
theorem k_isSeen (l : Launch) {D : va_G} {cI cZ : ClassId} {a0 : Nat} (σ : Nat → Nat → Int) (told : Int) (hσ : rg σ) (r_told : inI told) : moM l D cI cZ a0 yX12_isSeen cX12_isSeen 2 (some .boolean) 0 0 [.ref a0, .int (iz told)] σ (some (.int (iz (xb (decide (σ 1 9 = -1 ∨ told ≤ σ 1 9)))))) (σ) := by
  refine mo_start (by decide) rfl (Nat.le_of_ble_eq_true rfl) ?_
  intro p e s m args below meth c C K hr hlk
  refine hv_aload_n C 0 0 dX12_isSeen_0 rfl rfl ?_
  refine mo_geta C K 0 1 (by decide) rfl mo_hw fl_7 rfl dX12_isSeen_1 ?_
  refine hv_bipush C dX12_isSeen_4 (by decide) ?_
  refine mo_iald C K 1 9040 9 rfl (by omega) (by omega) (by decide) dX12_isSeen_6 ?_
  refine hv_nm (fun x1 ex1 => ?_)
  have rx1 : inI x1 := by rw [ex1]; exact hσ 1 9
  refine hv_iconst C dX12_isSeen_7 ?_
  refine hv_icmp_eq C 22 dX12_isSeen_8 (by decide) (by omega) (by omega) (fun h8 => ?_) (fun h8 => ?_)
  · skip
    refine hv_iconst C dX12_isSeen_22 ?_
    refine hv_goto C 27 dX12_isSeen_23 (by decide) ?_
    exact mo_zret (Qc := fun _ _ _ _ => True) C hr hlk ((xb_t (decide_eq_true (by omega))).symm) rfl dX12_isSeen_27
  · skip
    refine hv_iload_n C 1 1 dX12_isSeen_11 rfl rfl ?_
    refine hv_aload_n C 0 0 dX12_isSeen_12 rfl rfl ?_
    refine mo_geta C K 0 1 (by decide) rfl mo_hw fl_7 rfl dX12_isSeen_13 ?_
    refine hv_bipush C dX12_isSeen_16 (by decide) ?_
    refine mo_iald C K 1 9040 9 rfl (by omega) (by omega) (by decide) dX12_isSeen_18 ?_
    refine hv_nm (fun x2 ex2 => ?_)
    have rx2 : inI x2 := by rw [ex2]; exact hσ 1 9
    refine hv_icmp_gt C 26 dX12_isSeen_19 (by decide) (by omega) (by omega) (fun h19 => ?_) (fun h19 => ?_)
    · skip
      refine hv_iconst C dX12_isSeen_26 ?_
      exact mo_zret (Qc := fun _ _ _ _ => True) C hr hlk ((xb_f (decide_eq_false (by omega))).symm) rfl dX12_isSeen_27
    · skip
      refine hv_iconst C dX12_isSeen_22 ?_
      refine hv_goto C 27 dX12_isSeen_23 (by decide) ?_
      exact mo_zret (Qc := fun _ _ _ _ => True) C hr hlk ((xb_t (decide_eq_true (by omega))).symm) rfl dX12_isSeen_27
theorem dX12_wireOf_0 : decode cX12_wireOf 0 = .ok (.aload_n 0, 1) := by decide +kernel
theorem dX12_wireOf_1 : decode cX12_wireOf 1 = .ok (.getfield 7, 3) := by decide +kernel
theorem dX12_wireOf_4 : decode cX12_wireOf 4 = .ok (.bipush 30, 2) := by decide +kernel
theorem dX12_wireOf_6 : decode cX12_wireOf 6 = .ok (.iconst 4, 1) := by decide +kernel
theorem dX12_wireOf_7 : decode cX12_wireOf 7 = .ok (.iload_n 1, 1) := by decide +kernel
theorem dX12_wireOf_8 : decode cX12_wireOf 8 = .ok (.imul, 1) := by decide +kernel
theorem dX12_wireOf_9 : decode cX12_wireOf 9 = .ok (.iadd, 1) := by decide +kernel
theorem dX12_wireOf_10 : decode cX12_wireOf 10 = .ok (.iload_n 2, 1) := by decide +kernel
theorem dX12_wireOf_11 : decode cX12_wireOf 11 = .ok (.iadd, 1) := by decide +kernel
theorem dX12_wireOf_12 : decode cX12_wireOf 12 = .ok (.iaload, 1) := by decide +kernel
theorem dX12_wireOf_13 : decode cX12_wireOf 13 = .ok (.ireturn, 1) := by decide +kernel
set_option maxRecDepth 100000 in
set_option maxHeartbeats 4000000 in
theorem k_wireOf (l : Launch) {D : va_G} {cI cZ : ClassId} {a0 : Nat} (σ : Nat → Nat → Int) (w : Nat) (what : Nat) (hw : w < 12) (hq : what < 4) : moM l D cI cZ a0 yX12_wireOf cX12_wireOf 3 (some .int) 0 0 [.ref a0, .int (iz ((w : Nat) : Int)), .int (iz ((what : Nat) : Int))] σ (some (.int (iz (σ 1 ((30 + (4 * w)) + what))))) (σ) := by
  refine mo_start (by decide) rfl (Nat.le_of_ble_eq_true rfl) ?_
  intro p e s m args below meth c C K hr hlk
  refine hv_aload_n C 0 0 dX12_wireOf_0 rfl rfl ?_
  refine mo_geta C K 0 1 (by decide) rfl mo_hw fl_7 rfl dX12_wireOf_1 ?_
  refine hv_bipush C dX12_wireOf_4 (by decide) ?_
  refine hv_iconst C dX12_wireOf_6 ?_
  refine hv_iload_n C 1 1 dX12_wireOf_7 rfl rfl ?_
  refine hv_imul C dX12_wireOf_8 ?_
  refine hv_iadd C dX12_wireOf_9 ?_
  refine hv_iload_n C 2 2 dX12_wireOf_10 rfl rfl ?_
  refine hv_iadd C dX12_wireOf_11 ?_
  refine mo_iald C K 1 9040 ((30 + (4 * w)) + what) rfl (by omega) (by omega) (by decide) dX12_wireOf_12 ?_
  exact mo_iret (Qc := fun _ _ _ _ => True) C hr hlk rfl rfl dX12_wireOf_13
theorem dX12_stationOf_0 : decode cX12_stationOf 0 = .ok (.aload_n 0, 1) := by decide +kernel
theorem dX12_stationOf_1 : decode cX12_stationOf 1 = .ok (.getfield 7, 3) := by decide +kernel
theorem dX12_stationOf_4 : decode cX12_stationOf 4 = .ok (.bipush 80, 2) := by decide +kernel
theorem dX12_stationOf_6 : decode cX12_stationOf 6 = .ok (.iconst 4, 1) := by decide +kernel
theorem dX12_stationOf_7 : decode cX12_stationOf 7 = .ok (.iload_n 1, 1) := by decide +kernel
theorem dX12_stationOf_8 : decode cX12_stationOf 8 = .ok (.imul, 1) := by decide +kernel
theorem dX12_stationOf_9 : decode cX12_stationOf 9 = .ok (.iadd, 1) := by decide +kernel
theorem dX12_stationOf_10 : decode cX12_stationOf 10 = .ok (.iload_n 2, 1) := by decide +kernel
theorem dX12_stationOf_11 : decode cX12_stationOf 11 = .ok (.iadd, 1) := by decide +kernel
theorem dX12_stationOf_12 : decode cX12_stationOf 12 = .ok (.iaload, 1) := by decide +kernel
theorem dX12_stationOf_13 : decode cX12_stationOf 13 = .ok (.ireturn, 1) := by decide +kernel
set_option maxRecDepth 100000 in
set_option maxHeartbeats 4000000 in
theorem k_stationOf (l : Launch) {D : va_G} {cI cZ : ClassId} {a0 : Nat} (σ : Nat → Nat → Int) (w : Nat) (what : Nat) (hw : w < 10) (hq : what < 4) : moM l D cI cZ a0 yX12_stationOf cX12_stationOf 3 (some .int) 0 0 [.ref a0, .int (iz ((w : Nat) : Int)), .int (iz ((what : Nat) : Int))] σ (some (.int (iz (σ 1 ((80 + (4 * w)) + what))))) (σ) := by
  refine mo_start (by decide) rfl (Nat.le_of_ble_eq_true rfl) ?_
  intro p e s m args below meth c C K hr hlk
  refine hv_aload_n C 0 0 dX12_stationOf_0 rfl rfl ?_
  refine mo_geta C K 0 1 (by decide) rfl mo_hw fl_7 rfl dX12_stationOf_1 ?_
  refine hv_bipush C dX12_stationOf_4 (by decide) ?_
  refine hv_iconst C dX12_stationOf_6 ?_
  refine hv_iload_n C 1 1 dX12_stationOf_7 rfl rfl ?_
  refine hv_imul C dX12_stationOf_8 ?_
  refine hv_iadd C dX12_stationOf_9 ?_
  refine hv_iload_n C 2 2 dX12_stationOf_10 rfl rfl ?_
  refine hv_iadd C dX12_stationOf_11 ?_
  refine mo_iald C K 1 9040 ((80 + (4 * w)) + what) rfl (by omega) (by omega) (by decide) dX12_stationOf_12 ?_
  exact mo_iret (Qc := fun _ _ _ _ => True) C hr hlk rfl rfl dX12_stationOf_13
theorem dX12_hourOf_0 : decode cX12_hourOf 0 = .ok (.aload_n 0, 1) := by decide +kernel
theorem dX12_hourOf_1 : decode cX12_hourOf 1 = .ok (.getfield 7, 3) := by decide +kernel
theorem dX12_hourOf_4 : decode cX12_hourOf 4 = .ok (.sipush 280, 3) := by decide +kernel
theorem dX12_hourOf_7 : decode cX12_hourOf 7 = .ok (.bipush 8, 2) := by decide +kernel
theorem dX12_hourOf_9 : decode cX12_hourOf 9 = .ok (.iload_n 1, 1) := by decide +kernel
theorem dX12_hourOf_10 : decode cX12_hourOf 10 = .ok (.imul, 1) := by decide +kernel
theorem dX12_hourOf_11 : decode cX12_hourOf 11 = .ok (.iadd, 1) := by decide +kernel
theorem dX12_hourOf_12 : decode cX12_hourOf 12 = .ok (.iload_n 2, 1) := by decide +kernel
theorem dX12_hourOf_13 : decode cX12_hourOf 13 = .ok (.iadd, 1) := by decide +kernel
theorem dX12_hourOf_14 : decode cX12_hourOf 14 = .ok (.iaload, 1) := by decide +kernel
theorem dX12_hourOf_15 : decode cX12_hourOf 15 = .ok (.ireturn, 1) := by decide +kernel
set_option maxRecDepth 100000 in
set_option maxHeartbeats 4000000 in
theorem k_hourOf (l : Launch) {D : va_G} {cI cZ : ClassId} {a0 : Nat} (σ : Nat → Nat → Int) (w : Nat) (what : Nat) (hw : w < 25) (hq : what < 8) : moM l D cI cZ a0 yX12_hourOf cX12_hourOf 3 (some .int) 0 0 [.ref a0, .int (iz ((w : Nat) : Int)), .int (iz ((what : Nat) : Int))] σ (some (.int (iz (σ 1 ((280 + (8 * w)) + what))))) (σ) := by
  refine mo_start (by decide) rfl (Nat.le_of_ble_eq_true rfl) ?_
  intro p e s m args below meth c C K hr hlk
  refine hv_aload_n C 0 0 dX12_hourOf_0 rfl rfl ?_
  refine mo_geta C K 0 1 (by decide) rfl mo_hw fl_7 rfl dX12_hourOf_1 ?_
  refine hv_sipush C dX12_hourOf_4 (by decide) ?_
  refine hv_bipush C dX12_hourOf_7 (by decide) ?_
  refine hv_iload_n C 1 1 dX12_hourOf_9 rfl rfl ?_
  refine hv_imul C dX12_hourOf_10 ?_
  refine hv_iadd C dX12_hourOf_11 ?_
  refine hv_iload_n C 2 2 dX12_hourOf_12 rfl rfl ?_
  refine hv_iadd C dX12_hourOf_13 ?_
  refine mo_iald C K 1 9040 ((280 + (8 * w)) + what) rfl (by omega) (by omega) (by decide) dX12_hourOf_14 ?_
  exact mo_iret (Qc := fun _ _ _ _ => True) C hr hlk rfl rfl dX12_hourOf_15
theorem dX12_town_0 : decode cX12_town 0 = .ok (.aload_n 0, 1) := by decide +kernel
theorem dX12_town_1 : decode cX12_town 1 = .ok (.getfield 7, 3) := by decide +kernel
theorem dX12_town_4 : decode cX12_town 4 = .ok (.iconst 0, 1) := by decide +kernel
theorem dX12_town_5 : decode cX12_town 5 = .ok (.iaload, 1) := by decide +kernel
theorem dX12_town_6 : decode cX12_town 6 = .ok (.bipush 8, 2) := by decide +kernel
theorem dX12_town_8 : decode cX12_town 8 = .ok (.if_icmp .ne 5, 3) := by decide +kernel
theorem dX12_town_11 : decode cX12_town 11 = .ok (.iconst (-1), 1) := by decide +kernel
theorem dX12_town_12 : decode cX12_town 12 = .ok (.ireturn, 1) := by decide +kernel
theorem dX12_town_13 : decode cX12_town 13 = .ok (.aload_n 0, 1) := by decide +kernel
theorem dX12_town_14 : decode cX12_town 14 = .ok (.getfield 7, 3) := by decide +kernel
theorem dX12_town_17 : decode cX12_town 17 = .ok (.iconst 0, 1) := by decide +kernel
theorem dX12_town_18 : decode cX12_town 18 = .ok (.dup2, 1) := by decide +kernel
theorem dX12_town_19 : decode cX12_town 19 = .ok (.iaload, 1) := by decide +kernel
theorem dX12_town_20 : decode cX12_town 20 = .ok (.iconst 1, 1) := by decide +kernel
theorem dX12_town_21 : decode cX12_town 21 = .ok (.iadd, 1) := by decide +kernel
theorem dX12_town_22 : decode cX12_town 22 = .ok (.iastore, 1) := by decide +kernel
theorem dX12_town_23 : decode cX12_town 23 = .ok (.aload_n 0, 1) := by decide +kernel
theorem dX12_town_24 : decode cX12_town 24 = .ok (.getfield 7, 3) := by decide +kernel
theorem dX12_town_27 : decode cX12_town 27 = .ok (.iconst 0, 1) := by decide +kernel
theorem dX12_town_28 : decode cX12_town 28 = .ok (.iaload, 1) := by decide +kernel
theorem dX12_town_29 : decode cX12_town 29 = .ok (.iconst 1, 1) := by decide +kernel
theorem dX12_town_30 : decode cX12_town 30 = .ok (.isub, 1) := by decide +kernel
theorem dX12_town_31 : decode cX12_town 31 = .ok (.ireturn, 1) := by decide +kernel
set_option maxRecDepth 100000 in
set_option maxHeartbeats 4000000 in
theorem k_town (l : Launch) {D : va_G} {cI cZ : ClassId} {a0 : Nat} (σ : Nat → Nat → Int)  (hσ : rg σ) (h0 : 0 ≤ σ 1 0) : moM l D cI cZ a0 yX12_town cX12_town 1 (some .int) 0 0 [.ref a0] σ (some (.int (iz (if σ 1 0 = 8 then -1 else σ 1 0)))) (if σ 1 0 = 8 then σ else u2 σ 1 0 (σ 1 0 + 1)) := by
  refine mo_start (by decide) rfl (Nat.le_of_ble_eq_true rfl) ?_
  intro p e s m args below meth c C K hr hlk
  refine hv_aload_n C 0 0 dX12_town_0 rfl rfl ?_
  refine mo_geta C K 0 1 (by decide) rfl mo_hw fl_7 rfl dX12_town_1 ?_
  refine hv_iconst C dX12_town_4 ?_
  refine mo_iald C K 1 9040 0 rfl (by omega) (by omega) (by decide) dX12_town_5 ?_
  refine hv_nm (fun x1 ex1 => ?_)
  have rx1 : inI x1 := by rw [ex1]; exact hσ 1 0
  refine hv_bipush C dX12_town_6 (by decide) ?_
  refine hv_icmp_ne C 13 dX12_town_8 (by decide) (by omega) (by omega) (fun h8 => ?_) (fun h8 => ?_)
  · skip
    refine hv_aload_n C 0 0 dX12_town_13 rfl rfl ?_
    refine mo_geta C K 0 1 (by decide) rfl mo_hw fl_7 rfl dX12_town_14 ?_
    refine hv_iconst C dX12_town_17 ?_
    refine hv_dup2 C dX12_town_18 rfl rfl ?_
    refine mo_iald C K 1 9040 0 rfl (by omega) (by omega) (by decide) dX12_town_19 ?_
    refine hv_nm (fun x2 ex2 => ?_)
    have rx2 : inI x2 := by rw [ex2]; exact hσ 1 0
    refine hv_iconst C dX12_town_20 ?_
    refine hv_iadd C dX12_town_21 ?_
    refine mo_iast C K 1 9040 0 rfl (moW_set1 _ _ _ _ _ _) (by omega) (by omega) (by decide) dX12_town_22 ?_
    refine hv_aload_n C 0 0 dX12_town_23 rfl rfl ?_
    refine mo_geta C K 0 1 (by decide) rfl mo_hw fl_7 rfl dX12_town_24 ?_
    refine hv_iconst C dX12_town_27 ?_
    refine mo_iald C K 1 9040 0 rfl (by omega) (by omega) (by decide) dX12_town_28 ?_
    refine hv_nm (fun x3 ex3 => ?_)
    refine hv_iconst C dX12_town_29 ?_
    refine hv_isub C dX12_town_30 ?_
    exact mo_iret (Qc := fun _ _ _ _ => True) C hr hlk (by subst_vars; simp_all [u2]) (by subst_vars; simp_all [u2]) dX12_town_31
  · skip
    refine hv_iconst C dX12_town_11 ?_
    exact mo_iret (Qc := fun _ _ _ _ => True) C hr hlk (by subst_vars; simp_all [u2]) (by subst_vars; simp_all [u2]) dX12_town_12
