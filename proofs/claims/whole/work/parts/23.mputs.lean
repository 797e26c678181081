theorem dX12_puts_0 : decode cX12_puts 0 = .ok (.aload_n 0, 1) := by decide +kernel
theorem dX12_puts_1 : decode cX12_puts 1 = .ok (.getfield 169, 3) := by decide +kernel
theorem dX12_puts_4 : decode cX12_puts 4 = .ok (.bipush 16, 2) := by decide +kernel
theorem dX12_puts_6 : decode cX12_puts 6 = .ok (.if_icmp .ge 18, 3) := by decide +kernel
theorem dX12_puts_9 : decode cX12_puts 9 = .ok (.aload_n 0, 1) := by decide +kernel
theorem dX12_puts_10 : decode cX12_puts 10 = .ok (.getfield 17, 3) := by decide +kernel
theorem dX12_puts_13 : decode cX12_puts 13 = .ok (.bipush 20, 2) := by decide +kernel
theorem dX12_puts_15 : decode cX12_puts 15 = .ok (.aload_n 0, 1) := by decide +kernel
theorem dX12_puts_16 : decode cX12_puts 16 = .ok (.getfield 169, 3) := by decide +kernel
theorem dX12_puts_19 : decode cX12_puts 19 = .ok (.imul, 1) := by decide +kernel
theorem dX12_puts_20 : decode cX12_puts 20 = .ok (.iload_n 1, 1) := by decide +kernel
theorem dX12_puts_21 : decode cX12_puts 21 = .ok (.iadd, 1) := by decide +kernel
theorem dX12_puts_22 : decode cX12_puts 22 = .ok (.iload_n 2, 1) := by decide +kernel
theorem dX12_puts_23 : decode cX12_puts 23 = .ok (.iastore, 1) := by decide +kernel
theorem dX12_puts_24 : decode cX12_puts 24 = .ok (.return_, 1) := by decide +kernel
set_option maxRecDepth 100000 in
set_option maxHeartbeats 4000000 in
theorem k_puts (l : Launch) {D : va_G} {cI cZ : ClassId} {a0 : Nat} (σ : Nat → Nat → Int) (k : Nat) (v : Int) (hσ : rg σ) (hk : k < 20) (hl : 0 ≤ σ 0 10) : moM l D cI cZ a0 yX12_puts cX12_puts 3 none 0 0 [.ref a0, .int (iz ((k : Nat) : Int)), .int (iz v)] σ none (if σ 0 10 < 16 then sA σ 3 (ua (σ 3) (20 * (σ 0 10).toNat + k) v) else σ) := by
  refine mo_start (by decide) rfl (Nat.le_of_ble_eq_true rfl) ?_
  intro p e s m args below meth c C K hr hlk
  refine hv_aload_n C 0 0 dX12_puts_0 rfl rfl ?_
  refine mo_geti C K (x := σ 0 10) 10 (by decide) rfl mo_hw fl_169 rfl dX12_puts_1 ?_
  refine hv_nm (fun x1 ex1 => ?_)
  have rx1 : inI x1 := by rw [ex1]; exact hσ 0 10
  refine hv_bipush C dX12_puts_4 (by decide) ?_
  refine hv_icmp_ge C 24 dX12_puts_6 (by decide) (by omega) (by omega) (fun h6 => ?_) (fun h6 => ?_)
  · skip
    exact mo_vret (Qc := fun _ _ _ _ => True) C hr hlk (by first | exact if_n (by omega) rfl | (refine if_p (by omega) ?_; have zl9 : (σ 0 10).toNat = ln := (by omega); rw [zl9]; rfl)) dX12_puts_24
  · skip
    refine hv_aload_n C 0 0 dX12_puts_9 rfl rfl ?_
    refine mo_geta C K 11 3 (by decide) rfl mo_hw fl_17 rfl dX12_puts_10 ?_
    refine hv_bipush C dX12_puts_13 (by decide) ?_
    refine hv_aload_n C 0 0 dX12_puts_15 rfl rfl ?_
    refine mo_geti C K (x := σ 0 10) 10 (by decide) rfl mo_hw fl_169 rfl dX12_puts_16 ?_
    refine hv_nm (fun x2 ex2 => ?_)
    have rx2 : inI x2 := by rw [ex2]; exact hσ 0 10
    obtain ⟨ln, rfl⟩ : ∃ n : Nat, x2 = (n : Int) := ⟨(x2).toNat, by omega⟩
    refine hv_imul C dX12_puts_19 ?_
    refine hv_iload_n C 1 1 dX12_puts_20 rfl rfl ?_
    refine hv_iadd C dX12_puts_21 ?_
    refine hv_iload_n C 2 2 dX12_puts_22 rfl rfl ?_
    refine mo_iast C K 3 320 ((20 * ln) + k) rfl (moW_set3 _ _ _ _ _ _) (by omega) (by omega) (by decide) dX12_puts_23 ?_
    exact mo_vret (Qc := fun _ _ _ _ => True) C hr hlk (by first | exact if_n (by omega) rfl | (refine if_p (by omega) ?_; have zl9 : (σ 0 10).toNat = ln := (by omega); rw [zl9]; rfl)) dX12_puts_24
