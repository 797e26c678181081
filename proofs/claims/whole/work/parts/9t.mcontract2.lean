/-! contract: the class's reader and the reference's end alike -/
section CTS
variable {A : Nat → Int} {ln pk : Nat} {σ τ : Nat → Nat → Int}
theorem tn_all {n : Int} (hn : 0 ≤ n ∧ n ≤ 500) : ∀ (f k : Nat), 501 ≤ k + f → (∀ i, i < k → pl9q A n i < n) → (∀ i, i < tn9f A n f k → pl9q A n i < n) ∧ ¬ pl9q A n (tn9f A n f k) < n
  | 0, k, h, hk => by
    have := (pl_r (A := A) (n := n) hn.1 k hk).2
    exact ⟨hk, by show ¬ pl9q A n k < n; omega⟩
  | f + 1, k, h, hk => by
    unfold tn9f
    by_cases c : pl9q A n k < n
    · rw [if_pos c]
      exact tn_all hn f (k + 1) (by omega) (fun i hi => by
        by_cases d : i = k
        · rw [d]; exact c
        · exact hk i (by omega))
    · rw [if_neg c]
      exact ⟨hk, c⟩
theorem tn_le {n : Int} (hn : 0 ≤ n ∧ n ≤ 500) : (tn9 A n : Int) ≤ n ∧ pl9q A n (tn9 A n) = n ∧ ∀ i, i < tn9 A n → pl9q A n i < n := by
  obtain ⟨h1, h2⟩ := tn_all (A := A) hn 501 0 (by omega) (fun i hi => absurd hi (Nat.not_lt_zero _))
  have := pl_r (A := A) (n := n) hn.1 (tn9 A n) h1
  exact ⟨by omega, by have z : ¬ pl9q A n (tn9 A n) < n := h2; omega, h1⟩
theorem lx_0 (hl : ln ≤ 500) : LX9 A ln (rx0 pk (spS A ln τ)) ∧ (spS A ln τ) 44 2 = (tn9 A ln : Int) ∧ (rx0 pk (spS A ln τ)) 44 2 = (tn9 A ln : Int) := by
  obtain ⟨t1, t2, t3⟩ := tn_le (A := A) (n := (ln : Int)) (by omega)
  have s44 : (spS A ln τ) 44 2 = (tn9 A ln : Int) := by
    unfold spS
    rw [sA_ne _ _ (by decide), sA_ne _ _ (by decide), sA_at, ua_at]
  have s45 : (spS A ln τ) 45 = ua (tsq9 A ln (τ 45) (tn9 A ln)) (tn9 A ln) 0 := by
    unfold spS
    rw [sA_ne _ _ (by decide), sA_at]
  have s46 : (spS A ln τ) 46 = ua (ps9q A ln (τ 46) (tn9 A ln)) (tn9 A ln) ln := by
    unfold spS
    rw [sA_at]
  have r44 : (rx0 pk (spS A ln τ)) 44 2 = (spS A ln τ) 44 2 := by
    unfold rx0
    rw [sA_at, rx00_44]; rfl
  have ro : ∀ j, j ≠ 44 → j < 100 → (rx0 pk (spS A ln τ)) j = (spS A ln τ) j := by
    intro j h1 h2
    unfold rx0
    rw [sA_ne _ _ h1, rx00_o _ _ h1 h2]
  refine ⟨⟨by rw [r44]; exact s44, fun i hi => ?_, ?_, ?_, t2⟩, s44, by rw [r44]; exact s44⟩
  · rw [ro 45 (by decide) (by decide), ro 46 (by decide) (by decide), s45, s46, ua_ne _ _ (by omega), ua_ne _ _ (by omega)]
    unfold tsq9 ps9q
    rw [if_pos hi, if_pos hi]
    exact ⟨rfl, rfl, t3 i hi⟩
  · rw [ro 45 (by decide) (by decide), s45, ua_at]
  · rw [ro 46 (by decide) (by decide), s46, ua_at]
/-- the beginning of both -/
theorem ok_0 (hn : byn9 (σ 1) ln) (hl : ln ≤ 500) (h10 : σ 1 10 = (ln : Int)) : Ok9 (σ 1) ln 0 (rx0 pk (spS (σ 1) ln τ)) (adS (ct0 σ)) := by
  obtain ⟨lx, s2, r2⟩ := lx_0 (A := σ 1) (pk := pk) (τ := τ) hl
  obtain ⟨x, hx⟩ : ∃ x, x = rx0 pk (spS (σ 1) ln τ) := ⟨_, rfl⟩
  have e4 : x 44 = ua (ua (ua (ua (ua ((spS (σ 1) ln τ) 44) 5 ((pk : Nat) : Int)) 3 0) 4 (-1)) 6 0) 7 (-1) := by
    rw [hx]; unfold rx0
    rw [sA_at, rx00_44]
  have f3 : x 44 3 = 0 := by rw [e4]; rfl
  have f4 : x 44 4 = -1 := by rw [e4]; rfl
  have f6 : x 44 6 = 0 := by rw [e4]; rfl
  have xk : ∀ j, 100 ≤ j → j ≤ 103 → x j = fun _ => 0 := by
    intro j h1 h2
    rw [hx]; unfold rx0
    rw [sA_ne _ _ (by omega), rx00_k _ _ h1 h2]
  rw [← hx] at lx r2 ⊢
  -- the reference's first step
  have a1 : ∀ i, 1760 ≤ i → ct0 σ 1 i = σ 1 i := by
    intro i hi
    unfold ct0
    rw [u2_o (by omega), u2_o (by omega), u2_o (by omega), u2_o (by omega), u2_o (by omega), u2_o (by omega), u2_o (by omega)]
  have c2 : ct0 σ 0 2 = (ln : Int) := by
    unfold ct0
    rw [u2_o (by omega), u2_o (by omega), u2_o (by omega), u2_o (by omega), u2_o (by omega), u2_o (by omega), u2_sA, sA_at, ua_at, h10]
  have c3 : ct0 σ 0 3 = 0 := by
    unfold ct0
    rw [u2_o (by omega), u2_o (by omega), u2_o (by omega), u2_o (by omega), u2_sA, sA_at, ua_at]
  have c9 : ct0 σ 0 9 = 0 := by
    unfold ct0
    rw [u2_o (by omega), u2_sA, sA_at, ua_at]
  have c10 : ct0 σ 0 10 = 0 := by
    unfold ct0
    rw [u2_sA, sA_at, ua_at]
  have d11 : ct0 σ 1 11 = 0 := by
    unfold ct0
    rw [u2_o (by omega), u2_o (by omega), u2_o (by omega), u2_sA, sA_at, ua_at]
  have d12 : ct0 σ 1 12 = -1 := by
    unfold ct0
    rw [u2_o (by omega), u2_o (by omega), u2_sA, sA_at, ua_at]
  have ad := adv_tok (A := σ 1) (F := ct0 σ 0) (n := (ln : Int)) c2 (by omega) hn.2
  rw [c3] at ad
  have ep : sk9 (σ 1) ln 0 = pl9q (σ 1) ln 0 := rfl
  rw [ep] at ad
  have eF : adS (ct0 σ) 0 = adv9 (σ 1) (ct0 σ 0) := by
    unfold adS
    rw [sA_at]
    exact adv_c a1 _
  have eo : ∀ j, j ≠ 0 → adS (ct0 σ) j = ct0 σ j := fun j hj => sA_ne _ _ hj
  obtain ⟨l1, l2, l3, l4, l5⟩ := lx
  have t0 : (x 44 3).toNat = 0 := by rw [f3]; rfl
  refine ⟨⟨⟨l1, l2, l3, l4, l5⟩, by rw [f3, l1]; omega, ?_, ?_, by rw [eF]; exact ad.2.2.1, by rw [eF]; exact ad.2.1, ?_, ?_, fun i hi => by rw [eo 1 (by decide)]; exact a1 i hi⟩, f6, by rw [eF, adv_o (Or.inr (by decide))]; exact c9, Or.inl ⟨f4, by rw [eo 1 (by decide)]; exact d11, by rw [eo 1 (by decide)]; exact d12, ?_⟩⟩
  · unfold tkT
    rw [t0, eF]
    by_cases c : 0 < tn9 (σ 1) ln
    · rw [(ad.2.2.2.1 (l2 0 c).2.2).2.1]; exact (l2 0 c).1
    · have e : tn9 (σ 1) ln = 0 := by omega
      rw [e] at l3 l5
      rw [l3]
      have z := ad.2.2.2.2 (by omega)
      unfold ctk
      rw [if_pos z]
  · unfold tkP
    rw [t0, eF, ad.1]
    by_cases c : 0 < tn9 (σ 1) ln
    · exact (l2 0 c).2.1
    · have e : tn9 (σ 1) ln = 0 := by omega
      rw [e] at l4 l5
      rw [l4, l5]
  · rw [f3, l1, eF]
    intro z
    have c : 0 < tn9 (σ 1) ln := by omega
    have w := ad.2.2.2.1 (l2 0 c).2.2
    exact ⟨w.1, w.2.2⟩
  · rw [f3, l1, eF]
    intro z
    have e : tn9 (σ 1) ln = 0 := by omega
    rw [e] at l5
    exact ad.2.2.2.2 (by omega)
  · have e10 : adS (ct0 σ) 0 10 = 0 := by rw [eF, adv_o (Or.inr (by decide))]; exact c10
    refine ⟨by rw [xk 100 (by decide) (by decide), e10], by rw [e10]; decide, fun y hy => by rw [e10] at hy; omega, fun _ => ⟨by rw [xk 102 (by decide) (by decide)]; rfl, by decide, fun q hq => absurd hq (Nat.not_lt_zero _)⟩, fun y _ _ => by rw [xk 102 (by decide) (by decide)]⟩
/-- the class's reader against the reference's -/
theorem sm_all (hσ : rg σ) (hn : byn9 (σ 1) ln) (hl : ln ≤ 500) (h10 : σ 1 10 = (ln : Int)) (hI : RI9 pk (rx0 pk (spS (σ 1) ln τ))) : (rxS pk (spS (σ 1) ln τ)) 44 6 = ctf σ 1 11 ∧ (¬ ctf σ 1 11 = 0 → (rxS pk (spS (σ 1) ln τ)) 44 7 = ctf σ 1 12) ∧ (ctf σ 1 11 = 0 → ctf σ 1 12 = -1 ∧ Dt9 0 (rxS pk (spS (σ 1) ln τ)) (ctf σ)) := by
  have ok := ok_0 (pk := pk) (τ := τ) hn hl h10
  obtain ⟨lx, s2, r2⟩ := lx_0 (A := σ 1) (pk := pk) (τ := τ) hl
  have tl := (tn_le (A := σ 1) (n := (ln : Int)) (by omega)).1
  have p0 : pI (adS (ct0 σ)) := pI_ad (ct0_p hσ (by omega))
  have i1 := hI.1
  have mu := mu_le p0
  have e10 : adS (ct0 σ) 0 10 = ((0 : Nat) : Int) := by
    have q := ok.2.2.2
    rcases q with ⟨_, _, _, z⟩ | ⟨z, _⟩
    · have z1 := z.1
      have z2 := hI.2.2.2.2.1
      have e4 : rx0 pk (spS (σ 1) ln τ) 100 0 = 0 := by
        unfold rx0
        rw [sA_ne _ _ (by decide), rx00_k _ _ (by decide) (by decide)]
      omega
    · exact absurd z (by
        have d11 : adS (ct0 σ) 1 11 = 0 := by
          rw [show adS (ct0 σ) 1 = ct0 σ 1 from sA_ne _ _ (by decide)]
          unfold ct0
          rw [u2_o (by omega), u2_o (by omega), u2_o (by omega), u2_sA, sA_at, ua_at]
        omega)
  have tx := sm_text (pk := pk) hn fu9 (((spS (σ 1) ln τ) 44 2).toNat + 1) 0 _ _ hI p0 (by omega) ok e10 (by omega) (by unfold fu9; omega)
  have en := sm_end tx
  have e1 : rxS pk (spS (σ 1) ln τ) = rxE (rxw (((spS (σ 1) ln τ) 44 2).toNat + 1) 0 (rx0 pk (spS (σ 1) ln τ))) := rfl
  have e2 : ctf σ = ctw fu9 (adS (ct0 σ)) := rfl
  rw [e1, e2]
  refine ⟨en.1, en.2.1, fun z => ?_⟩
  obtain ⟨y1, y2, y3⟩ := en.2.2 z
  exact ⟨y1, by rw [y2]; exact y3⟩
end CTS
