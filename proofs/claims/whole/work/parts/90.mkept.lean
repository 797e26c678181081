/-! what is always so of the reference's state -/
def Ms9 (σ : Nat → Nat → Int) : Prop := rg σ ∧ Iv9 (σ 1) ∧ (∀ k, k < 3 → σ 2 k ≠ 0 → Iv9 (fun i => σ 1 (2260 * (k + 1) + i))) ∧ σ 7 0 = 0 ∧ ∀ j, j < 7 → 0 ≤ σ 9 j ∧ σ 9 j ≤ 11
theorem ms_set {σ : Nat → Nat → Int} {A' : Nat → Int} (h : Ms9 σ) (h1 : Iv9 A') (h2 : ∀ i, 2260 ≤ i → A' i = σ 1 i) (h3 : ∀ i, inI (A' i)) : Ms9 (sA σ 1 A') := by
  obtain ⟨g1, g2, g3, g4, g5⟩ := h
  refine ⟨rg_sA g1 h3, by rw [sA_at]; exact h1, fun k hk hne => ?_, by rw [sA_ne _ _ (by decide)]; exact g4, fun j hj => by rw [sA_ne _ _ (by decide)]; exact g5 j hj⟩
  rw [sA_ne _ _ (by decide)] at hne
  rw [sA_at]
  exact Iv9_c (fun i _ => h2 _ (by omega)) (g3 k hk hne)
theorem ms_scr {σ σ' : Nat → Nat → Int} (h : Ms9 σ) (h1 : σ' 1 = σ 1) (h2 : σ' 2 = σ 2) (h3 : rg σ') (h4 : σ' 7 0 = 0) (h5 : ∀ j, j < 7 → 0 ≤ σ' 9 j ∧ σ' 9 j ≤ 11) : Ms9 σ' := by
  obtain ⟨g1, g2, g3, g4, g5⟩ := h
  exact ⟨h3, by rw [h1]; exact g2, by rw [h1, h2]; exact g3, h4, h5⟩
theorem im_in {A : Nat → Int} (h : ∀ i, inI (A i)) {k : Nat} : ∀ i, inI (im A k 2260 i) := fun i => by
  rw [im_v A 2260 i (Nat.le_refl _)]
  split
  · exact h _
  · exact h _
theorem ag_in {A : Nat → Int} (h : ∀ i, inI (A i)) {k : Nat} : ∀ i, inI (ag A k 2260 i) := fun i => by
  rw [ag_v A 2260 i (Nat.le_refl _)]
  split
  · exact h _
  · exact h _
theorem ms_image {σ : Nat → Nat → Int} {k : Nat} (hk : k < 3) (h : Ms9 σ) : Ms9 (sA (u2 σ 2 k 1) 1 (im (σ 1) k 2260)) := by
  obtain ⟨g1, g2, g3, g4, g5⟩ := h
  refine ⟨rg_sA (by rw [u2_sA]; exact rg_sA g1 (in_ua (g1 2) (by omega))) (im_in (g1 1)), by rw [sA_at]; exact iv_image k g2, fun q hq hne => ?_, by rw [sA_ne _ _ (by decide), u2_sA, sA_ne _ _ (by decide)]; exact g4, fun j hj => by rw [sA_ne _ _ (by decide), u2_sA, sA_ne _ _ (by decide)]; exact g5 j hj⟩
  rw [sA_ne _ _ (by decide), u2_sA, sA_at] at hne
  rw [sA_at]
  by_cases c : q = k
  · subst c
    refine Iv9_c (fun i hi => ?_) g2
    rw [im_v _ 2260 _ (Nat.le_refl _), if_pos (by omega), show 2260 * (q + 1) + i - 2260 * (q + 1) = i by omega]
  · rw [ua_ne _ _ c] at hne
    refine Iv9_c (fun i hi => ?_) (g3 q hq hne)
    rw [im_v _ 2260 _ (Nat.le_refl _), if_neg (by omega)]
theorem ms_again {σ : Nat → Nat → Int} {k : Nat} (hk : k < 3) (hne : σ 2 k ≠ 0) (h : Ms9 σ) : Ms9 (sA σ 1 (ag (σ 1) k 2260)) := ms_set h (iv_again k (h.2.2.1 k hk hne)) (fun i hi => by rw [ag_v _ 2260 _ (Nat.le_refl _), if_neg (by omega)]) (ag_in (h.1 1))
theorem ls9_in {A Y W P : Nat → Int} {n hs : Nat} (hn : n ≤ 7) (h3 : hs < 3) : ∀ (f : Nat) (b : Int) (O G F : Nat → Int), pm9 O n → (∀ i, inI (O i)) → (∀ i, inI (G i)) → (∀ i, inI (F i)) → (∀ i, inI ((ls9 A Y W P n hs f b O G F).2.1 i)) ∧ (∀ i, inI ((ls9 A Y W P n hs f b O G F).2.2.1 i)) ∧ ∀ i, inI ((ls9 A Y W P n hs f b O G F).2.2.2 i)
  | 0, _, _, _, _, _, hO, hG, hF => ⟨hO, hG, hF⟩
  | f + 1, b, O, G, F, hp, hO, hG, hF => by
    have s := sx9_r (A := A) (Y := Y) (W := W) (P := P) (O := O) (n := n) h3 n 0 G (zt F 3) 0 0 (by omega) (by omega) (by omega) (by omega) (by omega) (fun i hi => by rw [zt_0 _ 3 i hi]; omega) (fun j hj => absurd hj (Nat.not_lt_zero _)) (zt_in hF 3) hG
    unfold ls9
    by_cases c : 0 ≤ ro1 O n
    · rw [if_pos c]
      refine ls9_in hn h3 f _ _ _ _ (ro_p hp hn c).1 ?_ s.2.1 s.2.2
      obtain ⟨i, j, e1, e2, e3, e4, e5, e6, e7⟩ := ro_f hp hn c
      rw [e7]
      exact rv_in _ _ _ _ (sw_in hO _ _)
    · rw [if_neg c]
      exact ⟨hO, s.2.1, s.2.2⟩
theorem ms_plS {σ : Nat → Nat → Int} (h : Ms9 σ) (d t : Int) : Ms9 (plS σ d t) := by
  have hc := h.2.1.1
  have hw := h.2.1.2.1
  refine ms_scr h rfl rfl (plS_rg h.1 hc hw h.2.2.2.1 d t) ?_ (fun j hj => ?_)
  · exact (ms_in (L := pgL σ d t) hc hw (pgL_z h.1 hc hw h.2.2.2.1 d t).1 (pgL_z h.1 hc hw h.2.2.2.1 d t).2).2
  · exact pgW_r h.2.2.2.2 288 j hj
theorem ms_lsS {σ : Nat → Nat → Int} (h : Ms9 σ) (h7 : 0 ≤ σ 0 17 ∧ 0 ≤ σ 0 18) : Ms9 (lsS σ) := by
  unfold lsS
  by_cases c : σ 0 17 + σ 0 18 > 7
  · rw [if_pos c]; exact h
  · rw [if_neg c]
    have hc := h.2.1.1
    have z := ls9_in (A := σ 1) (Y := σ 14) (W := σ 9) (P := σ 10) (n := (σ 0 17 + σ 0 18).toNat) (hs := (σ 1 13).toNat - 1) (by omega) (by omega) lF9 (-1) (id9 (σ 11) 7) (σ 12) (σ 13) (pm_id _ _ (by omega)) (id9_in (h.1 11) (Nat.le_refl _)) (h.1 12) (h.1 13)
    refine ms_scr h rfl rfl (rg_sA (rg_sA (rg_sA h.1 z.1) z.2.1) z.2.2) h.2.2.2.1 h.2.2.2.2
