theorem dX12_miles_0 : decode cX12_miles 0 = .ok (.aload_n 0, 1) := by decide +kernel
theorem dX12_miles_1 : decode cX12_miles 1 = .ok (.iload_n 1, 1) := by decide +kernel
theorem dX12_miles_2 : decode cX12_miles 2 = .ok (.iload_n 2, 1) := by decide +kernel
theorem dX12_miles_3 : decode cX12_miles 3 = .ok (.invokevirtual 253, 3) := by decide +kernel
theorem dX12_miles_6 : decode cX12_miles 6 = .ok (.istore_n 3, 1) := by decide +kernel
theorem dX12_miles_7 : decode cX12_miles 7 = .ok (.iload_n 3, 1) := by decide +kernel
theorem dX12_miles_8 : decode cX12_miles 8 = .ok (.ifCond .ge 7, 3) := by decide +kernel
theorem dX12_miles_11 : decode cX12_miles 11 = .ok (.iconst (-1), 1) := by decide +kernel
theorem dX12_miles_12 : decode cX12_miles 12 = .ok (.goto 8, 3) := by decide +kernel
theorem dX12_miles_15 : decode cX12_miles 15 = .ok (.aload_n 0, 1) := by decide +kernel
theorem dX12_miles_16 : decode cX12_miles 16 = .ok (.iload_n 3, 1) := by decide +kernel
theorem dX12_miles_17 : decode cX12_miles 17 = .ok (.invokevirtual 256, 3) := by decide +kernel
theorem dX12_miles_20 : decode cX12_miles 20 = .ok (.ireturn, 1) := by decide +kernel
set_option maxRecDepth 100000 in
set_option maxHeartbeats 4000000 in
theorem k_miles_t (l : Launch) {D : va_G} {cI cZ : ClassId} {a0 : Nat} (σ : Nat → Nat → Int) (h : Int) (i : Int) (hσ : rg σ) (hc : cn (σ 1)) (hs : si (σ 1)) (hh : hi (σ 1)) (hl : li (σ 1)) (hwi : wi (σ 1)) (hLr : ∀ i, inI ((ms (σ 1) (σ 7) ((σ 1) 1).toNat) i)) (r_h : inI h) (r_i : inI i) (hP : ((0 ≤ h ∧ h ≤ σ 1 4 - 1) ∧ (σ 1 9 = -1 ∨ σ 1 ((280 + (8 * h.toNat)) + 7) ≤ σ 1 9)) ∧ (0 ≤ i ∧ i ≤ σ 1 ((280 + (8 * h.toNat)) + 3) - 1)) : moM l D cI cZ a0 yX12_miles cX12_miles 4 (some .int) 11 276 [.ref a0, .int (iz h), .int (iz i)] σ (some (.int (iz (if ((0 ≤ h ∧ h ≤ σ 1 4 - 1) ∧ (σ 1 9 = -1 ∨ σ 1 ((280 + (8 * h.toNat)) + 7) ≤ σ 1 9)) ∧ (0 ≤ i ∧ i ≤ σ 1 ((280 + (8 * h.toNat)) + 3) - 1) then (if (sgs σ (σ 1 (280 + 8 * h.toNat + 1)) (σ 1 (280 + 8 * h.toNat + 2) + i) h).1 h.toNat < 0 then -1 else ml (σ 1) ((sgs σ (σ 1 (280 + 8 * h.toNat + 1)) (σ 1 (280 + 8 * h.toNat + 2) + i) h).1 h.toNat) (σ 1 1).toNat) else -1)))) (if ((0 ≤ h ∧ h ≤ σ 1 4 - 1) ∧ (σ 1 9 = -1 ∨ σ 1 ((280 + (8 * h.toNat)) + 7) ≤ σ 1 9)) ∧ (0 ≤ i ∧ i ≤ σ 1 ((280 + (8 * h.toNat)) + 3) - 1) then stg σ (σ 1 (280 + 8 * h.toNat + 1)) (σ 1 (280 + 8 * h.toNat + 2) + i) h else σ) := by
  refine mo_start (by decide) rfl (Nat.le_of_ble_eq_true rfl) ?_
  intro p e s m args below meth c C K hr hlk
  refine hv_aload_n C 0 0 dX12_miles_0 rfl rfl ?_
  refine hv_iload_n C 1 1 dX12_miles_1 rfl rfl ?_
  refine hv_iload_n C 2 2 dX12_miles_2 rfl rfl ?_
  refine mo_call [.int (iz h), .int (iz i)] [] C K (k_string l σ h i hσ (by omega) hs hh hl hwi hLr (by omega) (by omega)) ck_string (by decide) rfl (Nat.le_of_ble_eq_true rfl) dX12_miles_3 ?_
  refine hv_as (((sgs σ (σ 1 (280 + 8 * h.toNat + 1)) (σ 1 (280 + 8 * h.toNat + 2) + i) h).1 h.toNat)) (if_pos hP) ?_
  refine mo_st (σ2 := stg σ (σ 1 (280 + 8 * h.toNat + 1)) (σ 1 (280 + 8 * h.toNat + 2) + i) h) (if_pos hP) ?_
  have z24 : -1 ≤ (sgs σ (σ 1 (280 + 8 * h.toNat + 1)) (σ 1 (280 + 8 * h.toNat + 2) + i) h).1 h.toNat ∧ (sgs σ (σ 1 (280 + 8 * h.toNat + 1)) (σ 1 (280 + 8 * h.toNat + 2) + i) h).1 h.toNat ≤ 4095 := sg_24 hc _ _ (fun q9 w9 => mz_1 _ 24 q9 w9) _ _ (by omega)
  refine hv_istore_n C 3 [(3, .int (iz ((sgs σ (σ 1 (280 + 8 * h.toNat + 1)) (σ 1 (280 + 8 * h.toNat + 2) + i) h).1 h.toNat))), (0, .ref a0), (1, .int (iz h)), (2, .int (iz i))] dX12_miles_6 rfl (by decide) rfl ?_
  refine hv_iload_n C 3 0 dX12_miles_7 rfl rfl ?_
  refine hv_if_ge C 15 dX12_miles_8 (by decide) (by omega) (fun h8 => ?_) (fun h8 => ?_)
  · skip
    refine hv_aload_n C 0 1 dX12_miles_15 rfl rfl ?_
    refine hv_iload_n C 3 0 dX12_miles_16 rfl rfl ?_
    refine mo_call [.int (iz ((sgs σ (σ 1 (280 + 8 * h.toNat + 1)) (σ 1 (280 + 8 * h.toNat + 2) + i) h).1 h.toNat))] [] C K (k_milesOf l (stg σ (σ 1 (280 + 8 * h.toNat + 1)) (σ 1 (280 + 8 * h.toNat + 2) + i) h) ((sgs σ (σ 1 (280 + 8 * h.toNat + 1)) (σ 1 (280 + 8 * h.toNat + 2) + i) h).1 h.toNat) (stg_rg hσ hc hLr _ _ _) hc (by omega)) ck_milesOf (by decide) rfl (Nat.le_of_ble_eq_true rfl) dX12_miles_17 ?_
    refine hv_as ((ml (σ 1) ((sgs σ (σ 1 (280 + 8 * h.toNat + 1)) (σ 1 (280 + 8 * h.toNat + 2) + i) h).1 h.toNat) (σ 1 1).toNat)) rfl ?_
    exact mo_iret (Qc := fun _ _ _ _ => True) C hr hlk (by rw [if_pos hP]; first | exact if_p (by omega) rfl | exact if_n (by omega) rfl) (by rw [if_pos hP]) dX12_miles_20
  · skip
    refine hv_iconst C dX12_miles_11 ?_
    refine hv_goto C 20 dX12_miles_12 (by decide) ?_
    exact mo_iret (Qc := fun _ _ _ _ => True) C hr hlk (by rw [if_pos hP]; first | exact if_p (by omega) rfl | exact if_n (by omega) rfl) (by rw [if_pos hP]) dX12_miles_20
set_option maxRecDepth 100000 in
set_option maxHeartbeats 4000000 in
theorem k_miles_f (l : Launch) {D : va_G} {cI cZ : ClassId} {a0 : Nat} (σ : Nat → Nat → Int) (h : Int) (i : Int) (hσ : rg σ) (hc : cn (σ 1)) (hs : si (σ 1)) (hh : hi (σ 1)) (hl : li (σ 1)) (hwi : wi (σ 1)) (hLr : ∀ i, inI ((ms (σ 1) (σ 7) ((σ 1) 1).toNat) i)) (r_h : inI h) (r_i : inI i) (hP : ¬ (((0 ≤ h ∧ h ≤ σ 1 4 - 1) ∧ (σ 1 9 = -1 ∨ σ 1 ((280 + (8 * h.toNat)) + 7) ≤ σ 1 9)) ∧ (0 ≤ i ∧ i ≤ σ 1 ((280 + (8 * h.toNat)) + 3) - 1))) : moM l D cI cZ a0 yX12_miles cX12_miles 4 (some .int) 11 276 [.ref a0, .int (iz h), .int (iz i)] σ (some (.int (iz (if ((0 ≤ h ∧ h ≤ σ 1 4 - 1) ∧ (σ 1 9 = -1 ∨ σ 1 ((280 + (8 * h.toNat)) + 7) ≤ σ 1 9)) ∧ (0 ≤ i ∧ i ≤ σ 1 ((280 + (8 * h.toNat)) + 3) - 1) then (if (sgs σ (σ 1 (280 + 8 * h.toNat + 1)) (σ 1 (280 + 8 * h.toNat + 2) + i) h).1 h.toNat < 0 then -1 else ml (σ 1) ((sgs σ (σ 1 (280 + 8 * h.toNat + 1)) (σ 1 (280 + 8 * h.toNat + 2) + i) h).1 h.toNat) (σ 1 1).toNat) else -1)))) (if ((0 ≤ h ∧ h ≤ σ 1 4 - 1) ∧ (σ 1 9 = -1 ∨ σ 1 ((280 + (8 * h.toNat)) + 7) ≤ σ 1 9)) ∧ (0 ≤ i ∧ i ≤ σ 1 ((280 + (8 * h.toNat)) + 3) - 1) then stg σ (σ 1 (280 + 8 * h.toNat + 1)) (σ 1 (280 + 8 * h.toNat + 2) + i) h else σ) := by
  refine mo_start (by decide) rfl (Nat.le_of_ble_eq_true rfl) ?_
  intro p e s m args below meth c C K hr hlk
  refine hv_aload_n C 0 0 dX12_miles_0 rfl rfl ?_
  refine hv_iload_n C 1 1 dX12_miles_1 rfl rfl ?_
  refine hv_iload_n C 2 2 dX12_miles_2 rfl rfl ?_
  refine mo_call [.int (iz h), .int (iz i)] [] C K (k_string l σ h i hσ (by omega) hs hh hl hwi hLr (by omega) (by omega)) ck_string (by decide) rfl (Nat.le_of_ble_eq_true rfl) dX12_miles_3 ?_
  refine hv_as ((-1)) (if_neg hP) ?_
  refine mo_st (σ2 := σ) (if_neg hP) ?_
  refine hv_istore_n C 3 [(3, .int (iz (-1))), (0, .ref a0), (1, .int (iz h)), (2, .int (iz i))] dX12_miles_6 rfl (by decide) rfl ?_
  refine hv_iload_n C 3 0 dX12_miles_7 rfl rfl ?_
  refine hv_if_ge C 15 dX12_miles_8 (by decide) (by decide) (fun h => absurd h (by decide)) (fun _ => ?_)
  refine hv_iconst C dX12_miles_11 ?_
  refine hv_goto C 20 dX12_miles_12 (by decide) ?_
  exact mo_iret (Qc := fun _ _ _ _ => True) C hr hlk (by rw [if_neg hP]) (by rw [if_neg hP]) dX12_miles_20
theorem k_miles (l : Launch) {D : va_G} {cI cZ : ClassId} {a0 : Nat} (σ : Nat → Nat → Int) (h : Int) (i : Int) (hσ : rg σ) (hc : cn (σ 1)) (hs : si (σ 1)) (hh : hi (σ 1)) (hl : li (σ 1)) (hwi : wi (σ 1)) (hLr : ∀ i, inI ((ms (σ 1) (σ 7) ((σ 1) 1).toNat) i)) (r_h : inI h) (r_i : inI i) : moM l D cI cZ a0 yX12_miles cX12_miles 4 (some .int) 11 276 [.ref a0, .int (iz h), .int (iz i)] σ (some (.int (iz (if ((0 ≤ h ∧ h ≤ σ 1 4 - 1) ∧ (σ 1 9 = -1 ∨ σ 1 ((280 + (8 * h.toNat)) + 7) ≤ σ 1 9)) ∧ (0 ≤ i ∧ i ≤ σ 1 ((280 + (8 * h.toNat)) + 3) - 1) then (if (sgs σ (σ 1 (280 + 8 * h.toNat + 1)) (σ 1 (280 + 8 * h.toNat + 2) + i) h).1 h.toNat < 0 then -1 else ml (σ 1) ((sgs σ (σ 1 (280 + 8 * h.toNat + 1)) (σ 1 (280 + 8 * h.toNat + 2) + i) h).1 h.toNat) (σ 1 1).toNat) else -1)))) (if ((0 ≤ h ∧ h ≤ σ 1 4 - 1) ∧ (σ 1 9 = -1 ∨ σ 1 ((280 + (8 * h.toNat)) + 7) ≤ σ 1 9)) ∧ (0 ≤ i ∧ i ≤ σ 1 ((280 + (8 * h.toNat)) + 3) - 1) then stg σ (σ 1 (280 + 8 * h.toNat + 1)) (σ 1 (280 + 8 * h.toNat + 2) + i) h else σ) := by
  by_cases hP : ((0 ≤ h ∧ h ≤ σ 1 4 - 1) ∧ (σ 1 9 = -1 ∨ σ 1 ((280 + (8 * h.toNat)) + 7) ≤ σ 1 9)) ∧ (0 ≤ i ∧ i ≤ σ 1 ((280 + (8 * h.toNat)) + 3) - 1)
  · exact k_miles_t l σ h i hσ hc hs hh hl hwi hLr r_h r_i hP
  · exact k_miles_f l σ h i hσ hc hs hh hl hwi hLr r_h r_i hP
