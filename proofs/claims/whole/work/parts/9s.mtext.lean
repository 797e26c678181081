/-! the whole text on both sides -/
section TXS
variable {A : Nat → Int} {n : Int} {τ s T t : Nat → Nat → Int} {k pk : Nat}
theorem sm_ln0 (hn : byn9 A n) {li9 : Nat} (h : Ok9 A n 0 τ s) (hl : s 0 10 = (li9 : Int)) : Co9 A n (if 16 ≤ li9 then otm τ (tkP τ) else τ) (ln0 s) ∧ Fl9 0 (if 16 ≤ li9 then otm τ (tkP τ) else τ) (ln0 s) := by
  obtain ⟨c, h6, h9, hd⟩ := h
  unfold ln0
  by_cases c16 : 16 ≤ li9
  · rw [if_pos c16, if_pos (by omega)]
    rcases hd with ⟨z1, z2, z3, z4⟩ | ⟨z1, z2, z3⟩
    · have ea : alS s = u2 (u2 s 1 11 3) 1 12 (s 0 4) := by unfold alS; rw [if_neg (by omega)]
      have eo : otm τ (tkP τ) = sA τ 44 (ua (τ 44) 4 (tkP τ)) := by unfold otm; rw [if_pos z1]
      have ao : ∀ j, j ≠ 1 → alS s j = s j := fun j hj => by rw [ea, u2_sA, sA_ne _ _ hj, u2_sA, sA_ne _ _ hj]
      have a1 : ∀ i, 1760 ≤ i → alS s 1 i = s 1 i := fun i hi => by rw [ea, u2_o (by omega), u2_o (by omega)]
      rw [eo]
      refine ⟨⟨cur_k c (by rw [sA_at]; rfl) (by rw [sA_at]; rfl) (sA_ne _ _ (by decide)) (sA_ne _ _ (by decide)) (fun i _ => by rw [ao 0 (by decide)]) a1, by rw [sA_at]; exact h6, by rw [ao 0 (by decide)]; exact h9⟩, Or.inr ⟨?_, ?_, ?_⟩⟩
      · rw [ea, u2_o (by omega), u2_sA, sA_at, ua_at]
      · rw [ea, u2_sA, sA_at, ua_at]; exact pl_nn hn c
      · rw [sA_at, ea, u2_sA, sA_at, ua_at]; exact c.2.2.2.1
    · have ea : alS s = s := by unfold alS; rw [if_pos (Or.inr (by omega))]
      have eo : otm τ (tkP τ) = τ := by unfold otm; rw [if_neg (by omega)]
      rw [ea, eo]
      exact ⟨⟨c, h6, h9⟩, Or.inr ⟨z1, z2, z3⟩⟩
  · rw [if_neg c16, if_neg (by omega)]
    refine ⟨⟨c, h6, h9⟩, ?_⟩
    rcases hd with z | z
    · exact Or.inl ⟨z, by omega⟩
    · exact Or.inr z
theorem tk_ok {fi la : Int} (h : (tks τ fi la) 44 6 = 0) : (tks τ fi la) 44 3 = τ 44 3 + 1 := by
  unfold tks at h ⊢
  by_cases c : ¬ τ 44 6 = 0
  · rw [if_pos c] at h; exact absurd h c
  · rw [if_neg c] at h ⊢
    by_cases d : tkO τ fi la
    · rw [if_pos d, sA_at, ua_at]
    · rw [if_neg d, sA_at] at h
      exact absurd (show (1 : Int) = 0 from h) (by decide)
theorem at_rds (τ : Nat → Nat → Int) : τ 44 3 ≤ (rds τ) 44 3 := by
  unfold rds
  split
  · exact Int.le_trans (at_tks τ 13 13) (at_tks _ _ _)
  · exact at_tks _ _ _
theorem rn2_44 (τ : Nat → Nat → Int) : (rn2 τ) 44 = (tks (rds τ) 3 3) 44 := by
  unfold rn2 rn3
  split
  · exact alT_o _ _ (by decide) (by decide)
  · rfl
theorem at_rn2 (h : (rn2 τ) 44 6 = 0) : τ 44 3 < (rn2 τ) 44 3 := by
  rw [rn2_44] at h ⊢
  have := at_rds τ
  rw [tk_ok h]; omega
theorem at_rnS (h : (rnS τ) 44 6 = 0) : τ 44 3 < (rnS τ) 44 3 := by
  unfold rnS at h ⊢
  have a := at_rn2 h
  have b : τ 44 3 ≤ (if tkT τ = 8 then rsS τ else τ) 44 3 := by
    split
    · exact Int.le_trans (Int.le_trans (Int.le_trans (at_tks τ 8 8) (at_rtS _)) (at_rlw _ _)) (at_tks _ 2 2)
    · exact Int.le_refl _
  omega
theorem sm_line (hn : byn9 A n) {li9 : Nat} (hI : RI9 pk τ) (hp : pI s) (h : Ok9 A n 0 τ s) (hl : s 0 10 = (li9 : Int)) : Ln9 A n (li9 : Int) (rnS (if 16 ≤ li9 then otm τ (tkP τ) else τ)) (lnS s) := by
  obtain ⟨co, hf⟩ := sm_ln0 hn h hl
  have hI2 : RI9 pk (if 16 ≤ li9 then otm τ (tkP τ) else τ) := by
    split
    · exact (rk_otm hI hI.t.2).1
    · exact hI
  have p0 := ps_ln0 hp
  have p1 := ps_ln1 p0.1
  have a := sm_ln3 hn (sm_ln1 hn hI2 co hf)
  have e10 : (ln1 (ln0 s)).2 0 10 = (li9 : Int) := by rw [p1.2.1.1, p0.2.1.1, hl]
  rw [e10] at a
  exact a
theorem sm_text (hn : byn9 A n) : ∀ (fr fc li9 : Nat) (τ s : Nat → Nat → Int), RI9 pk τ → pI s → s 0 10 + (mu9 s : Int) ≤ 900 → Ok9 A n 0 τ s → s 0 10 = (li9 : Int) → τ 44 2 - τ 44 3 < (fc : Int) → τ 44 2 - τ 44 3 < (fr : Int) → Ok9 A n 0 (rxw fc li9 τ) (ctw fr s) ∨ Bd9 (rxw fc li9 τ) (ctw fr s)
  | 0, fc, li9, τ, s, hI, hp, hm, h, hl, h1, h2 => by
    have := hI.1
    omega
  | fr + 1, fc, li9, τ, s, hI, hp, hm, h, hl, h1, h2 => by
    have i1 := hI.1
    have cv9 := ctk_v h.1.2.2.2.2.1
    have cT := h.1.2.2.1
    by_cases g : s 0 5 = 0
    · rw [ctw_x (by omega), rxw_e (Or.inr (fun z => by have z2 := z.2; rw [cT] at z2; omega))]
      exact Or.inl h
    · have ln := sm_line hn hI hp h hl
      have lm := ln_mu hp (by omega) g
      rw [ctw_s (by omega) ⟨h.2.2.1, g⟩, rxw_s (f := fc) (li9 := li9) (τ := τ) (by omega) ⟨h.2.1, by rw [cT]; omega⟩]
      have hI2 : RK9 pk τ (if 16 ≤ li9 then otm τ (tkP τ) else τ) := by
        split
        · exact rk_otm hI hI.t.2
        · exact rk_r hI
      have a2 : (if 16 ≤ li9 then otm τ (tkP τ) else τ) 44 3 = τ 44 3 := by
        split
        · unfold otm
          split
          · rw [sA_at]; rfl
          · rfl
        · rfl
      obtain ⟨x, hx⟩ : ∃ x, x = if 16 ≤ li9 then otm τ (tkP τ) else τ := ⟨_, rfl⟩
      rw [← hx] at ln hI2 a2 ⊢
      have K := rk_rnS hI2.1
      have l2 := K.2.1
      have l3 := hI2.2.1
      rcases ln with ⟨ok, e10⟩ | bd
      · have at9 := at_rnS ok.2.1
        exact sm_text hn fr (fc - 1) (li9 + 1) _ _ K.1 lm.1 (by omega) ok (by omega) (by omega) (by omega)
      · have b6 := bd.1
        have b9 := bd.2.1
        rw [show fr + 1 - 1 = fr from rfl, ctw_x (by omega), rxw_e (Or.inr (by omega))]
        exact Or.inr bd
/-- how both end -/
theorem sm_end (h : Ok9 A n 0 τ s ∨ Bd9 τ s) : (rxE τ) 44 6 = s 1 11 ∧ (¬ s 1 11 = 0 → (rxE τ) 44 7 = s 1 12) ∧ (s 1 11 = 0 → s 1 12 = -1 ∧ rxE τ = τ ∧ Dt9 0 τ s) := by
  rcases h with ⟨c, h6, h9, hd⟩ | bd
  · rcases hd with ⟨z1, z2, z3, z4⟩ | ⟨z1, z2, z3⟩
    · have e : rxE τ = τ := by unfold rxE; rw [if_neg (by omega)]
      rw [e]
      exact ⟨by omega, fun z => absurd z2 z, fun _ => ⟨z3, rfl, z4⟩⟩
    · have e : rxE τ = sA τ 44 (ua (ua (τ 44) 6 3) 7 (τ 44 4)) := by unfold rxE; rw [if_pos (by omega)]
      rw [e, sA_at]
      exact ⟨by rw [z1]; rfl, fun _ => z3, fun z => by omega⟩
  · obtain ⟨b1, b2, b3, b4⟩ := bd
    have e : rxE τ = τ := by unfold rxE; rw [if_neg (by omega)]
    rw [e]
    exact ⟨by omega, fun _ => b4.symm, fun z => by omega⟩
end TXS
