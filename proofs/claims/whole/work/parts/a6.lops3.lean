/-! the law's calls, one by one: string miles change plan -/
theorem lsS_1 (σ : Nat → Nat → Int) : lsS σ 1 = σ 1 := by
  unfold lsS
  split <;> rfl
theorem lsS_2 (σ : Nat → Nat → Int) : lsS σ 2 = σ 2 := by
  unfold lsS
  split <;> rfl
section OPS
variable {l : Launch} {D : va_G} {ar : Nat → ClassId} {B : Nat → Prop} {o : olP} {w : zcW} {n b : Nat} {σ : Nat → Nat → Int}
theorem lop_string (h : Int) (i : Int) (r_h : inI h) (r_i : inI i) (hL : LS9 ar b o.2.1 σ w n) : op9 l D ar B b o yX11_string cX11_string 3 yX12_string cX12_string 3 .int [.int (iz h), .int (iz i)] σ w n := by
  obtain ⟨τ, w0, Ow, rfl, hC, hM, hT⟩ := hL
  have hc9 := hM.2.1.1
  have key : ((0 ≤ h ∧ h ≤ σ 1 4 - 1) ∧ (σ 1 9 = -1 ∨ σ 1 ((280 + (8 * h.toNat)) + 7) ≤ σ 1 9)) ∧ (0 ≤ i ∧ i ≤ σ 1 ((280 + (8 * h.toNat)) + 3) - 1) → lyS (σ 1) (48 * σ 1 (280 + 8 * h.toNat + 1) + σ 1 (280 + 8 * h.toNat + 2) + i) (τ 25) (τ 26) (τ 27) (τ 28) (τ 29) h.toNat = (sgs σ (σ 1 (280 + 8 * h.toNat + 1)) (σ 1 (280 + 8 * h.toNat + 2) + i) h).1 h.toNat := by
    intro ok
    have hh := hM.2.1.2.2.2.2.1 h.toNat (by omega)
    have e : ((h.toNat : Nat) : Int) = h := by omega
    have z := lyS_at hM.2.1.1 hM.2.1.2.1 hM.2.1.2.2.2.2.1 hM.2.1.2.2.1 (d := σ 1 (280 + 8 * h.toNat + 1)) (t := σ 1 (280 + 8 * h.toNat + 2) + i) (by omega) (by omega) (τ 25) (τ 26) (τ 27) (τ 28) (τ 29) (S2 := σ 5) (K2 := σ 6) (L := σ 7) hM.2.2.2.1 (h := h.toNat) (by omega)
    rw [e, ← Int.add_assoc] at z
    exact z
  refine oq_s (Ow := Ow) (k_X11_string l (σ 1) τ h i (hM.1 1) hC.1.1 hM.2.1.2.2.1 hM.2.1.2.2.2.2.1 hM.2.1.2.2.2.2.2.2.2.2.1 hM.2.1.2.2.2.2.2.2.2.2.2 hM.2.1.1 hM.2.1.2.2.2.1 hM.2.1.2.2.2.2.2.1 hM.2.1.2.1 r_h r_i) (k_string l σ h i hM.1 hM.2.1.1 hM.2.1.2.2.1 hM.2.1.2.2.2.2.1 hM.2.1.2.2.2.2.2.2.2.2.1 hM.2.1.2.1 (ms_hL hM).1 r_h r_i) ?_ ⟨by decide, by decide, by decide, by decide⟩ (fun X => ?_) ?_ ?_
  · by_cases ok : ((0 ≤ h ∧ h ≤ σ 1 4 - 1) ∧ (σ 1 9 = -1 ∨ σ 1 ((280 + (8 * h.toNat)) + 7) ≤ σ 1 9)) ∧ (0 ≤ i ∧ i ≤ σ 1 ((280 + (8 * h.toNat)) + 3) - 1)
    · rw [if_pos ok, if_pos ok, key ok]
    · rw [if_neg ok, if_neg ok]
  · exact ci_scr hC (by split <;> rfl) (by split <;> rfl) (fun j hj _ => by rw [sA_ne _ _ (by omega), sA_ne _ _ (by omega), sA_ne _ _ (by omega), sA_ne _ _ (by omega), sA_ne _ _ (by omega), sA_ne _ _ (by omega)]) (by rw [sA_ne _ _ (by omega), sA_ne _ _ (by omega), sA_ne _ _ (by omega), sA_ne _ _ (by omega), sA_ne _ _ (by omega), sA_ne _ _ (by omega)]) (by rw [sA_ne _ _ (by omega), sA_ne _ _ (by omega), sA_ne _ _ (by omega), sA_ne _ _ (by omega), sA_ne _ _ (by omega), sA_ne _ _ (by omega)])
  · split
    · exact ms_stg hM _ _ _
    · exact hM
  · split
    · exact mt_scr hT rfl rfl
    · exact hT
theorem lop_miles (h : Int) (i : Int) (r_h : inI h) (r_i : inI i) (hL : LS9 ar b o.2.1 σ w n) : op9 l D ar B b o yX11_miles cX11_miles 3 yX12_miles cX12_miles 4 .int [.int (iz h), .int (iz i)] σ w n := by
  obtain ⟨τ, w0, Ow, rfl, hC, hM, hT⟩ := hL
  have hc9 := hM.2.1.1
  have key : ((0 ≤ h ∧ h ≤ σ 1 4 - 1) ∧ (σ 1 9 = -1 ∨ σ 1 ((280 + (8 * h.toNat)) + 7) ≤ σ 1 9)) ∧ (0 ≤ i ∧ i ≤ σ 1 ((280 + (8 * h.toNat)) + 3) - 1) → lyS (σ 1) (48 * σ 1 (280 + 8 * h.toNat + 1) + σ 1 (280 + 8 * h.toNat + 2) + i) (τ 25) (τ 26) (τ 27) (τ 28) (τ 29) h.toNat = (sgs σ (σ 1 (280 + 8 * h.toNat + 1)) (σ 1 (280 + 8 * h.toNat + 2) + i) h).1 h.toNat := by
    intro ok
    have hh := hM.2.1.2.2.2.2.1 h.toNat (by omega)
    have e : ((h.toNat : Nat) : Int) = h := by omega
    have z := lyS_at hM.2.1.1 hM.2.1.2.1 hM.2.1.2.2.2.2.1 hM.2.1.2.2.1 (d := σ 1 (280 + 8 * h.toNat + 1)) (t := σ 1 (280 + 8 * h.toNat + 2) + i) (by omega) (by omega) (τ 25) (τ 26) (τ 27) (τ 28) (τ 29) (S2 := σ 5) (K2 := σ 6) (L := σ 7) hM.2.2.2.1 (h := h.toNat) (by omega)
    rw [e, ← Int.add_assoc] at z
    exact z
  refine oq_s (Ow := Ow) (k_X11_miles l (σ 1) τ h i (hM.1 1) hC.1.1 hM.2.1.2.2.1 hM.2.1.2.2.2.2.1 hM.2.1.2.2.2.2.2.2.2.2.1 hM.2.1.2.2.2.2.2.2.2.2.2 hM.2.1.1 hM.2.1.2.2.2.1 hM.2.1.2.2.2.2.2.1 hM.2.1.2.1 r_h r_i) (k_miles l σ h i hM.1 hM.2.1.1 hM.2.1.2.2.1 hM.2.1.2.2.2.2.1 hM.2.1.2.2.2.2.2.2.2.2.1 hM.2.1.2.1 (ms_hL hM).1 r_h r_i) ?_ ⟨by decide, by decide, by decide, by decide⟩ (fun X => ?_) ?_ ?_
  · by_cases ok : ((0 ≤ h ∧ h ≤ σ 1 4 - 1) ∧ (σ 1 9 = -1 ∨ σ 1 ((280 + (8 * h.toNat)) + 7) ≤ σ 1 9)) ∧ (0 ≤ i ∧ i ≤ σ 1 ((280 + (8 * h.toNat)) + 3) - 1)
    · rw [if_pos ok, if_pos ok, key ok]
    · rw [if_neg ok, if_neg ok]
  · exact ci_scr hC (by split <;> rfl) (by split <;> rfl) (fun j hj _ => by rw [sA_ne _ _ (by omega), sA_ne _ _ (by omega), sA_ne _ _ (by omega), sA_ne _ _ (by omega), sA_ne _ _ (by omega), sA_ne _ _ (by omega)]) (by rw [sA_ne _ _ (by omega), sA_ne _ _ (by omega), sA_ne _ _ (by omega), sA_ne _ _ (by omega), sA_ne _ _ (by omega), sA_ne _ _ (by omega)]) (by rw [sA_ne _ _ (by omega), sA_ne _ _ (by omega), sA_ne _ _ (by omega), sA_ne _ _ (by omega), sA_ne _ _ (by omega), sA_ne _ _ (by omega)])
  · split
    · exact ms_stg hM _ _ _
    · exact hM
  · split
    · exact mt_scr hT rfl rfl
    · exact hT
theorem lop_change (d : Int) (t : Int) (what : Int) (r_d : inI d) (r_t : inI t) (r_what : inI what) (hL : LS9 ar b o.2.1 σ w n) : op9 l D ar B b o yX11_change cX11_change 5 yX12_change cX12_change 4 .int [.int (iz d), .int (iz t), .int (iz what)] σ w n := by
  obtain ⟨τ, w0, Ow, rfl, hC, hM, hT⟩ := hL
  refine oq_s (Ow := Ow) (k_X11_change l (σ 1) τ d t what (hM.1 1) hC.1.1 hM.2.1.2.2.1 hM.2.1.2.2.2.2.1 hM.2.1.2.2.2.2.2.2.2.2.1 hM.2.1.2.2.2.2.2.2.2.2.2 hM.2.1.1 hM.2.1.2.2.2.1 hM.2.1.2.2.2.2.2.1 hM.2.1.2.1 r_d r_t r_what) (k_change l σ d t what hM.1 hM.2.1.1 hM.2.1.2.2.1 hM.2.1.2.2.2.2.1 hM.2.1.2.2.2.2.2.2.2.2.1 hM.2.1.2.1 hM.2.2.2.1 hM.2.2.2.2 r_d r_t r_what) ?_ ⟨by decide, by decide, by decide, by decide⟩ (fun X => ?_) ?_ ?_
  · by_cases ok : (0 ≤ d ∧ d ≤ 199) ∧ (0 ≤ t ∧ t ≤ 47) ∧ (0 ≤ what ∧ what ≤ 2)
    · rw [if_pos ok, if_pos ok]
      exact change_eq rfl hM.1 hM.2.1.1 hM.2.1.2.1 hM.2.1.2.2.2.2.1 hM.2.1.2.2.1 hM.2.2.2.1 hM.2.2.2.2 ok.1 ok.2.1
    · rw [if_neg ok, if_neg ok]
  · refine ci_scr hC ?_ ?_ (fun j hj _ => by rw [sA_ne _ _ (by omega), sA_ne _ _ (by omega), sA_ne _ _ (by omega), sA_ne _ _ (by omega), sA_ne _ _ (by omega), sA_ne _ _ (by omega), sA_ne _ _ (by omega), sA_ne _ _ (by omega), sA_ne _ _ (by omega), sA_ne _ _ (by omega), sA_ne _ _ (by omega), sA_ne _ _ (by omega), sA_ne _ _ (by omega), sA_ne _ _ (by omega), sA_ne _ _ (by omega), sA_ne _ _ (by omega), sA_ne _ _ (by omega), sA_ne _ _ (by omega), sA_ne _ _ (by omega)]) (by rw [sA_ne _ _ (by omega), sA_ne _ _ (by omega), sA_ne _ _ (by omega), sA_ne _ _ (by omega), sA_ne _ _ (by omega), sA_ne _ _ (by omega), sA_ne _ _ (by omega), sA_ne _ _ (by omega), sA_ne _ _ (by omega), sA_ne _ _ (by omega), sA_ne _ _ (by omega), sA_ne _ _ (by omega), sA_ne _ _ (by omega), sA_ne _ _ (by omega), sA_ne _ _ (by omega), sA_ne _ _ (by omega), sA_ne _ _ (by omega), sA_ne _ _ (by omega), sA_ne _ _ (by omega)]) (by rw [sA_ne _ _ (by omega), sA_ne _ _ (by omega), sA_ne _ _ (by omega), sA_ne _ _ (by omega), sA_ne _ _ (by omega), sA_ne _ _ (by omega), sA_ne _ _ (by omega), sA_ne _ _ (by omega), sA_ne _ _ (by omega), sA_ne _ _ (by omega), sA_ne _ _ (by omega), sA_ne _ _ (by omega), sA_ne _ _ (by omega), sA_ne _ _ (by omega), sA_ne _ _ (by omega), sA_ne _ _ (by omega), sA_ne _ _ (by omega), sA_ne _ _ (by omega), sA_ne _ _ (by omega)])
    · split
      · split
        · rw [lsS_1]; rfl
        · rfl
      · rfl
    · split
      · split
        · rw [lsS_2]; rfl
        · rfl
      · rfl
  · split
    · split
      · exact ms_lsS (ms_plS hM d t) ⟨(pgu_r _ _ _).1, (pgu_r _ _ _).2.1⟩
      · exact ms_plS hM d t
    · exact hM
  · split
    · split
      · exact mt_scr hT (by rw [lsS_1]; rfl) (by rw [lsS_2]; rfl)
      · exact mt_scr hT rfl rfl
    · exact hT
theorem lop_plan (what : Int) (r_what : inI what) (hL : LS9 ar b o.2.1 σ w n) : op9 l D ar B b o yX11_plan cX11_plan 2 yX12_plan cX12_plan 2 .int [.int (iz what)] σ w n := by
  obtain ⟨τ, w0, Ow, rfl, hC, hM, hT⟩ := hL
  have hc9 := hM.2.1.1
  refine oq_s (Ow := Ow) (k_X11_plan l (σ 1) τ what (hM.1 1) hC.1.1 hM.2.1.1 hM.2.1.2.2.2.2.2.2.2.1 hC.1.2.2.2 r_what) (k_plan l σ what hM.1 hM.2.1.1 hM.2.1.2.2.2.2.2.2.2.1 (ms_plan hM).1 r_what) ?_ ⟨by decide, by decide, by decide, by decide⟩ (fun X => ?_) ?_ ?_
  · by_cases ok : 0 ≤ what ∧ what ≤ σ 1 7
    · rw [if_pos ok, if_pos ok]
      refine plan_eq hM.2.1.1 hM.2.1.2.2.2.2.2.2.2.1 (fun k hk => hC.1.1.sorts k hk) (fun i hi => ?_) (fun k t hk ht => ?_) (ua_at _ _ _) ok
      · have e : i = 6 * (i / 6) + i % 6 := by omega
        rw [e, hC.1.1.worths (i / 6) (i % 6) (by omega) (by omega)]
        split
        · exact (hM.2.1.2.2.2.2.2.2.2.1 (i / 6) (by assumption)).2 (i % 6) (by omega)
        · omega
      · rw [hC.1.1.worths k t (by omega) ht, if_pos hk]
    · rw [if_neg ok, if_neg ok]
  · refine ci_scr hC (by split <;> rfl) (by split <;> rfl) (fun j hj hne => by rw [sA_ne _ _ (by omega), sA_ne _ _ (by omega), sA_ne _ _ (by omega), sA_ne _ _ (by omega)]) ?_ (by rw [sA_ne _ _ (by omega), sA_ne _ _ (by omega), sA_ne _ _ (by omega), sA_ne _ _ (by omega)])
    skip
    rw [sA_ne _ _ (by omega), sA_ne _ _ (by omega), sA_ne _ _ (by omega), sA_at, ua_ne _ _ (by decide)]
  · split
    · exact (ms_plan hM).2
    · exact hM
  · split
    · exact mt_scr hT rfl rfl
    · exact hT
end OPS
