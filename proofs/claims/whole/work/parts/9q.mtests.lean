/-! all tests of a line -/
section ALS
variable {A : Nat → Int} {n : Int} {τ s T t : Nat → Nat → Int} {k pk : Nat}
def Fl9 (k : Nat) (τ s : Nat → Nat → Int) : Prop := (Cl9 k τ s ∧ s 0 10 < 16) ∨ Mn9 τ s
theorem fl_kp (h : Fl9 k τ s) (g : Kp9 τ s T t) : Fl9 k T t := by
  obtain ⟨⟨a, g1⟩, g2, g3, g4⟩ := g
  have o : ∀ j, j ≠ 44 → T j = τ j := fun j hj => by rw [g1, sA_ne _ _ hj]
  have T4 : T 44 4 = τ 44 4 := by rw [g1, sA_at]; rfl
  rcases h with ⟨⟨z1, z2, z3, z4⟩, z5⟩ | ⟨z1, z2, z3⟩
  · exact Or.inl ⟨⟨by rw [T4]; exact z1, by rw [g2]; exact z2, by rw [g2]; exact z3, dt_k z4 (o 100 (by decide)) (o 101 (by decide)) (o 102 (by decide)) (o 103 (by decide)) g4 g3⟩, by rw [g4]; exact z5⟩
  · exact Or.inr ⟨by rw [g2]; exact z1, by rw [g2]; exact z2, by rw [T4, g2]; exact z3⟩
/-- a sign or a number that must stand there, in a line -/
theorem si_mu (hn : byn9 A n) {c : Int} (hc : c = 2 ∨ c = 3) (h : SI9 A n k τ s) : SI9 A n k (tks τ c c) (muS s (56 + c)) := by
  rcases h with ⟨co, hf⟩ | h
  · have cv9 := ctk_v co.1.2.2.2.2.1
    obtain ⟨g1, g2⟩ := co_tks hn (fi := c) (la := c) (G := s 0 5 = 2 ∧ s 0 7 = 56 + c) (by omega) co (by omega)
    unfold muS
    by_cases g : s 0 5 = 2 ∧ s 0 7 = 56 + c
    · rw [if_pos ⟨co.2.2, g⟩]
      exact Or.inl ⟨(g1 g).1, fl_kp hf (g1 g).2.1⟩
    · rw [if_neg (fun z => g z.2)]
      exact Or.inr (g2 g).1
  · have z := h.2.1
    rw [(bd_tks h c c).1]
    unfold muS
    rw [if_neg (by omega), st_id z]
    exact Or.inr h
/-- the class's reader never goes back -/
theorem at_tks (τ : Nat → Nat → Int) (fi la : Int) : τ 44 3 ≤ (tks τ fi la) 44 3 := by
  unfold tks
  split
  · exact Int.le_refl _
  · split
    · rw [sA_at, ua_at]; omega
    · rw [sA_at]; exact Int.le_refl _
theorem at_rt4 (pl : Int) (nt : Bool) (sb sg nu : Int) (τ : Nat → Nat → Int) : (rt4 pl nt sb sg nu τ) 44 3 = τ 44 3 := by
  have e : (atS τ (xb nt) sb sg nu) 44 = τ 44 := atS_o _ _ _ _ _ (by decide) (by decide)
  unfold rt4
  split
  · split
    · rw [e]
    · unfold otm
      split
      · rw [sA_at, e]; rfl
      · rw [e]
  · rfl
theorem at_rtS (τ : Nat → Nat → Int) : τ 44 3 ≤ (rtS τ) 44 3 := by
  have h3 : ∀ pl nt sb (T : Nat → Nat → Int), T 44 3 ≤ (rt3 pl nt sb T) 44 3 := by
    intro pl nt sb T
    unfold rt3
    split
    · rw [at_rt4]; exact Int.le_trans (at_tks _ _ _) (at_tks _ _ _)
    · rw [at_rt4]; exact Int.le_refl _
  have h2 : ∀ pl nt (T : Nat → Nat → Int), T 44 3 ≤ (rt2 pl nt T) 44 3 := fun pl nt T => Int.le_trans (at_tks T 14 22) (h3 _ _ _ _)
  unfold rtS
  split
  · exact Int.le_trans (at_tks τ 10 10) (h2 _ _ _)
  · exact h2 _ _ _
theorem at_rlw : ∀ (f : Nat) (τ : Nat → Nat → Int), τ 44 3 ≤ (rlw f τ) 44 3
  | 0, τ => Int.le_refl _
  | f + 1, τ => by
    unfold rlw
    split
    · exact Int.le_trans (Int.le_trans (at_tks τ 9 9) (at_rtS _)) (at_rlw f _)
    · exact Int.le_refl _
/-- all tests -/
theorem sm_alw (hn : byn9 A n) : ∀ (fr fc k : Nat) (τ s : Nat → Nat → Int), RI9 pk τ → SI9 A n k τ s → τ 44 2 - τ 44 3 ≤ (fc : Int) → τ 44 2 - τ 44 3 < (fr : Int) → SI9 A n (alw fr k s).1 (rlw fc (rtS τ)) (alw fr k s).2
  | 0, fc, k, τ, s, hI, h, h1, h2 => by
    have := hI.1
    omega
  | fr + 1, fc, k, τ, s, hI, h, h1, h2 => by
    have st := sm_it hn h
    have K := rk_rtS hI
    have I1 := K.1
    have l1 := K.2.1
    have a1 := at_rtS τ
    unfold alw
    rcases Or.symm st with bd | ⟨co, hf⟩
    · have b9 := bd.2.1
      have b6 := bd.1
      rw [if_neg (by omega), rlw_e (Or.inr (by omega))]
      exact Or.inr bd
    · have cv9 := ctk_v co.1.2.2.2.2.1
      have cT := co.1.2.2.1
      by_cases g : (it9 k s) 0 5 = 3 ∧ (it9 k s) 0 8 = 31
      · rw [if_pos ⟨co.2.2, g⟩]
        have i1 := I1.1
        obtain ⟨c1, k1, v1⟩ := (co_tks hn (fi := 9) (la := 9) (G := (it9 k s) 0 5 = 3 ∧ (it9 k s) 0 8 = 31) (by omega) co (by omega)).1 g
        have lt : (rtS τ) 44 3 < (rtS τ) 44 2 := by
          apply Decidable.byContradiction
          intro z
          have := co.1.2.2.2.2.2.2.2.1 (by omega)
          omega
        have e3 : (tks (rtS τ) 9 9) 44 3 = (rtS τ) 44 3 + 1 := by
          unfold tks
          rw [if_neg (by rw [co.2.1]; decide), if_pos ⟨by rw [cT]; omega, lt⟩, sA_at, ua_at]
        have K2 := rk_tks I1 9 9
        have l2 := K2.2.1
        rw [rlw_s (f := fc) (τ := rtS τ) (by omega) ⟨co.2.1, by rw [cT]; omega⟩]
        exact sm_alw hn fr (fc - 1) (k + 1) _ _ K2.1 (Or.inl ⟨c1, fl_kp hf k1⟩) (by omega) (by omega)
      · rw [if_neg (fun z => g z.2), rlw_e (Or.inr (fun z => by have z2 := z.2; rw [cT] at z2; omega))]
        exact Or.inl ⟨co, hf⟩
/-- the tests with their word and colon -/
theorem sm_ln1 (hn : byn9 A n) (hI : RI9 pk τ) (co : Co9 A n τ s) (hf : Fl9 0 τ s) : SI9 A n (ln1 s).1 (if tkT τ = 8 then rsS τ else τ) (ln1 s).2 := by
  have cv9 := ctk_v co.1.2.2.2.2.1
  have cT := co.1.2.2.1
  have i1 := hI.1
  unfold ln1
  by_cases g : s 0 5 = 3 ∧ s 0 8 = 30
  · rw [if_pos ⟨co.2.2, g⟩, if_pos (by rw [cT]; omega)]
    obtain ⟨c1, k1, v1⟩ := (co_tks hn (fi := 8) (la := 8) (G := s 0 5 = 3 ∧ s 0 8 = 30) (by omega) co (by omega)).1 g
    have K := rk_tks hI 8 8
    have l2 := K.2.1
    have a3 := at_tks τ 8 8
    have al := sm_alw hn fu9 (τ 44 2).toNat 0 (tks τ 8 8) (adS s) K.1 (Or.inl ⟨c1, fl_kp hf k1⟩) (by omega) (by unfold fu9; omega)
    exact si_mu hn (c := 2) (Or.inl rfl) al
  · rw [if_neg (fun z => g z.2), if_neg (by rw [cT]; omega)]
    exact Or.inl ⟨co, hf⟩
end ALS
