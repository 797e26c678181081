theorem st9_rng {A : Nat → Int} (hc : cn A) (K L : Nat → Int) (h : Nat) (d t : Int) : -1 ≤ st9 A K L h d t ∧ st9 A K L h d t ≤ 4095 := by
  have h1 := bs_rng A K L (tw9 A h (se A (h : Int) d t (A 2).toNat) (A 2).toNat) (2 ^ (A 1).toNat)
  have h2 : (2 : Nat) ^ (A 1).toNat ≤ 2 ^ 12 := Nat.pow_le_pow_right (by decide) (by omega)
  unfold st9
  split
  · exact ⟨by omega, by omega⟩
  · exact ⟨by omega, by omega⟩
theorem sg_in {A : Nat → Int} (hc : cn A) {L K0 S0 : Nat → Int} (d t : Int) (hS : ∀ i, inI (S0 i)) (hK : ∀ i, inI (K0 i)) (hK2 : ∀ i, i < 12 → 0 ≤ K0 i ∧ K0 i ≤ ((0 : Nat) : Int)) : ∀ h : Nat, h ≤ 24 → (∀ i, inI ((sg A L K0 S0 d t h).1 i)) ∧ (∀ i, inI ((sg A L K0 S0 d t h).2 i)) ∧ (∀ i, i < 12 → 0 ≤ (sg A L K0 S0 d t h).2 i ∧ (sg A L K0 S0 d t h).2 i ≤ (h : Int))
  | 0, _ => ⟨hS, hK, hK2⟩
  | h + 1, hh => by
    obtain ⟨i1, i2, i3⟩ := sg_in hc (L := L) d t hS hK hK2 h (by omega)
    have r := st9_rng hc (sg A L K0 S0 d t h).2 L h d t
    unfold sg
    split
    · refine ⟨in_ua i1 ⟨by omega, by omega⟩, ?_, ?_⟩
      · by_cases zx : 0 < st9 A (sg A L K0 S0 d t h).2 L h d t
        · simp only [if_pos zx]
          exact tk_in i2 i3 (by omega) 12 (by omega)
        · simp only [if_neg zx]
          exact i2
      · by_cases zx : 0 < st9 A (sg A L K0 S0 d t h).2 L h d t
        · simp only [if_pos zx]
          exact fun i q => tk_up i3 12 i q
        · simp only [if_neg zx]
          exact fun i q => by have z := i3 i q; omega
    · exact ⟨i1, i2, fun i q => by have z := i3 i q; omega⟩
theorem sg_24 {A : Nat → Int} (hc : cn A) {L K0 S0 : Nat → Int} (d t : Int) (hS : ∀ i, i < 24 → S0 i = -1) : ∀ h i : Nat, i < 24 → -1 ≤ (sg A L K0 S0 d t h).1 i ∧ (sg A L K0 S0 d t h).1 i ≤ 4095
  | 0, i, q => by show -1 ≤ S0 i ∧ S0 i ≤ 4095; rw [hS i q]; omega
  | h + 1, i, q => by
    have i1 := sg_24 hc (L := L) (K0 := K0) d t hS h i q
    have r := st9_rng hc (sg A L K0 S0 d t h).2 L h d t
    unfold sg
    split
    · show -1 ≤ ua _ _ _ i ∧ ua _ _ _ i ≤ 4095
      unfold ua
      split
      · exact r
      · exact i1
    · exact i1
theorem mz_1 (S : Nat → Int) : ∀ w i, i < w → mz S w i = -1
  | 0, i, h => absurd h (Nat.not_lt_zero i)
  | w + 1, i, h => by
    unfold mz ua
    split
    · rfl
    · exact mz_1 S w i (by omega)
/-- the state behind 'strung' -/
abbrev sgs (σ : Nat → Nat → Int) (d t u : Int) : (Nat → Int) × (Nat → Int) := sg (σ 1) (ms (σ 1) (σ 7) ((σ 1) 1).toNat) (zt (σ 6) 12) (mz (σ 5) 24) d t (nh9 (σ 1) u)
abbrev stg (σ : Nat → Nat → Int) (d t u : Int) : Nat → Nat → Int := sA (sA (sA σ 5 (sgs σ d t u).1) 6 (sgs σ d t u).2) 7 (ms (σ 1) (σ 7) ((σ 1) 1).toNat)
theorem nh9_le {A : Nat → Int} (hc : cn A) (u : Int) : nh9 A u ≤ 24 := by
  unfold nh9; split <;> omega
theorem stg_rg {σ : Nat → Nat → Int} (hσ : rg σ) (hc : cn (σ 1)) (hLr : ∀ i, inI (ms (σ 1) (σ 7) ((σ 1) 1).toNat i)) (d t u : Int) : rg (stg σ d t u) := by
  have h := sg_in hc (L := ms (σ 1) (σ 7) ((σ 1) 1).toNat) (K0 := zt (σ 6) 12) (S0 := mz (σ 5) 24) d t (mz_in (fun _ => hσ _ _) 24) (zt_in (fun _ => hσ _ _) 12) (fun i q => by rw [zt_0 _ 12 i q]; omega) (nh9 (σ 1) u) (nh9_le hc u)
  exact rg_sA (rg_sA (rg_sA hσ h.1) h.2.1) hLr

theorem dX12_string_0 : decode cX12_string 0 = .ok (.aload_n 0, 1) := by decide +kernel
theorem dX12_string_1 : decode cX12_string 1 = .ok (.iload_n 1, 1) := by decide +kernel
theorem dX12_string_2 : decode cX12_string 2 = .ok (.iload_n 2, 1) := by decide +kernel
theorem dX12_string_3 : decode cX12_string 3 = .ok (.invokevirtual 231, 3) := by decide +kernel
theorem dX12_string_6 : decode cX12_string 6 = .ok (.ifCond .ne 5, 3) := by decide +kernel
theorem dX12_string_9 : decode cX12_string 9 = .ok (.iconst (-1), 1) := by decide +kernel
theorem dX12_string_10 : decode cX12_string 10 = .ok (.ireturn, 1) := by decide +kernel
theorem dX12_string_11 : decode cX12_string 11 = .ok (.aload_n 0, 1) := by decide +kernel
theorem dX12_string_12 : decode cX12_string 12 = .ok (.aload_n 0, 1) := by decide +kernel
theorem dX12_string_13 : decode cX12_string 13 = .ok (.iload_n 1, 1) := by decide +kernel
theorem dX12_string_14 : decode cX12_string 14 = .ok (.iconst 1, 1) := by decide +kernel
theorem dX12_string_15 : decode cX12_string 15 = .ok (.invokevirtual 67, 3) := by decide +kernel
theorem dX12_string_18 : decode cX12_string 18 = .ok (.aload_n 0, 1) := by decide +kernel
theorem dX12_string_19 : decode cX12_string 19 = .ok (.iload_n 1, 1) := by decide +kernel
theorem dX12_string_20 : decode cX12_string 20 = .ok (.iconst 2, 1) := by decide +kernel
theorem dX12_string_21 : decode cX12_string 21 = .ok (.invokevirtual 67, 3) := by decide +kernel
theorem dX12_string_24 : decode cX12_string 24 = .ok (.iload_n 2, 1) := by decide +kernel
theorem dX12_string_25 : decode cX12_string 25 = .ok (.iadd, 1) := by decide +kernel
theorem dX12_string_26 : decode cX12_string 26 = .ok (.iload_n 1, 1) := by decide +kernel
theorem dX12_string_27 : decode cX12_string 27 = .ok (.invokevirtual 249, 3) := by decide +kernel
theorem dX12_string_30 : decode cX12_string 30 = .ok (.aload_n 0, 1) := by decide +kernel
theorem dX12_string_31 : decode cX12_string 31 = .ok (.getfield 23, 3) := by decide +kernel
theorem dX12_string_34 : decode cX12_string 34 = .ok (.iload_n 1, 1) := by decide +kernel
theorem dX12_string_35 : decode cX12_string 35 = .ok (.iaload, 1) := by decide +kernel
theorem dX12_string_36 : decode cX12_string 36 = .ok (.ireturn, 1) := by decide +kernel
set_option maxRecDepth 100000 in
set_option maxHeartbeats 4000000 in
theorem k_string (l : Launch) {D : va_G} {cI cZ : ClassId} {a0 : Nat} (σ : Nat → Nat → Int) (h : Int) (i : Int) (hσ : rg σ) (hc : cn (σ 1)) (hs : si (σ 1)) (hh : hi (σ 1)) (hl : li (σ 1)) (hwi : wi (σ 1)) (hLr : ∀ i, inI ((ms (σ 1) (σ 7) ((σ 1) 1).toNat) i)) (r_h : inI h) (r_i : inI i) : moM l D cI cZ a0 yX12_string cX12_string 3 (some .int) 10 254 [.ref a0, .int (iz h), .int (iz i)] σ (some (.int (iz (if ((0 ≤ h ∧ h ≤ σ 1 4 - 1) ∧ (σ 1 9 = -1 ∨ σ 1 ((280 + (8 * h.toNat)) + 7) ≤ σ 1 9)) ∧ (0 ≤ i ∧ i ≤ σ 1 ((280 + (8 * h.toNat)) + 3) - 1) then (sgs σ (σ 1 (280 + 8 * h.toNat + 1)) (σ 1 (280 + 8 * h.toNat + 2) + i) h).1 h.toNat else -1)))) (if ((0 ≤ h ∧ h ≤ σ 1 4 - 1) ∧ (σ 1 9 = -1 ∨ σ 1 ((280 + (8 * h.toNat)) + 7) ≤ σ 1 9)) ∧ (0 ≤ i ∧ i ≤ σ 1 ((280 + (8 * h.toNat)) + 3) - 1) then stg σ (σ 1 (280 + 8 * h.toNat + 1)) (σ 1 (280 + 8 * h.toNat + 2) + i) h else σ) := by
  refine mo_start (by decide) rfl (Nat.le_of_ble_eq_true rfl) ?_
  intro p e s m args below meth c C K hr hlk
  refine hv_aload_n C 0 0 dX12_string_0 rfl rfl ?_
  refine hv_iload_n C 1 1 dX12_string_1 rfl rfl ?_
  refine hv_iload_n C 2 2 dX12_string_2 rfl rfl ?_
  refine mo_call [.int (iz h), .int (iz i)] [] C K (k_isPart l σ h i hσ (by omega) (by omega) (by omega) (by omega)) ck_isPart (by decide) rfl (Nat.le_of_ble_eq_true rfl) dX12_string_3 ?_
  refine hv_dif_ne C 11 dX12_string_6 (by decide)  (fun h6 => ?_) (fun h6 => ?_)
  · skip
    obtain ⟨hn, rfl⟩ : ∃ n : Nat, h = (n : Int) := ⟨(h).toNat, by omega⟩
    have hhn := hh hn (by omega)
    (try simp only [Int.toNat_natCast] at *)
    refine hv_aload_n C 0 0 dX12_string_11 rfl rfl ?_
    refine hv_aload_n C 0 0 dX12_string_12 rfl rfl ?_
    refine hv_iload_n C 1 1 dX12_string_13 rfl rfl ?_
    refine hv_iconst C dX12_string_14 ?_
    refine mo_call [.int (iz ((hn : Nat) : Int)), .int (iz 1)] [.ref a0] C K (k_hourOf l σ hn 1 (by omega) (by omega)) ck_hourOf (by decide) rfl (Nat.le_of_ble_eq_true rfl) dX12_string_15 ?_
    refine hv_nm (fun x1 ex1 => ?_)
    have rx1 : inI x1 := by rw [ex1]; exact hσ _ _
    refine hv_aload_n C 0 0 dX12_string_18 rfl rfl ?_
    refine hv_iload_n C 1 1 dX12_string_19 rfl rfl ?_
    refine hv_iconst C dX12_string_20 ?_
    refine mo_call [.int (iz ((hn : Nat) : Int)), .int (iz 2)] [.int (iz x1), .ref a0] C K (k_hourOf l σ hn 2 (by omega) (by omega)) ck_hourOf (by decide) rfl (Nat.le_of_ble_eq_true rfl) dX12_string_21 ?_
    refine hv_nm (fun x2 ex2 => ?_)
    have rx2 : inI x2 := by rw [ex2]; exact hσ _ _
    refine hv_iload_n C 2 2 dX12_string_24 rfl rfl ?_
    refine hv_iadd C dX12_string_25 ?_
    refine hv_iload_n C 1 1 dX12_string_26 rfl rfl ?_
    refine mo_call [.int (iz x1), .int (iz (x2 + i)), .int (iz ((hn : Nat) : Int))] [] C K (k_strung l σ x1 (x2 + i) ((hn : Nat) : Int) hσ (by omega) hs hh hl hwi (by omega) (by omega) (by omega) hLr) ck_strung (by decide) rfl (Nat.le_of_ble_eq_true rfl) dX12_string_27 ?_
    refine hv_aload_n C 0 0 dX12_string_30 rfl rfl ?_
    refine mo_geta C K 13 5 (by decide) rfl mo_hw fl_23 rfl dX12_string_31 ?_
    refine hv_iload_n C 1 1 dX12_string_34 rfl rfl ?_
    refine mo_iald C K 5 24 hn rfl (by omega) (by omega) (by decide) dX12_string_35 ?_
    refine hv_nm (fun x3 ex3 => ?_)
    exact mo_iret (Qc := fun _ _ _ _ => True) C hr hlk (by (try simp only [Int.toNat_natCast] at *); first | exact if_n (by omega) rfl | (refine if_p (by omega) ?_; subst_vars; rfl)) (by (try simp only [Int.toNat_natCast] at *); first | exact if_n (by omega) rfl | (refine if_p (by omega) ?_; subst_vars; rfl)) dX12_string_36
  · skip
    refine hv_iconst C dX12_string_9 ?_
    exact mo_iret (Qc := fun _ _ _ _ => True) C hr hlk (by (try simp only [Int.toNat_natCast] at *); first | exact if_n (by omega) rfl | (refine if_p (by omega) ?_; subst_vars; rfl)) (by (try simp only [Int.toNat_natCast] at *); first | exact if_n (by omega) rfl | (refine if_p (by omega) ?_; subst_vars; rfl)) dX12_string_10
