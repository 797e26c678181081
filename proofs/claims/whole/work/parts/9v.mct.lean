/-! what is always so, behind contract -/
section MCT
variable {σ : Nat → Nat → Int} {A A2 : Nat → Int}
theorem iv_ct (h : Iv9 A) (e : ∀ i, i < 800 → i ≠ 10 → i ≠ 11 → i ≠ 12 → ¬ (14 ≤ i ∧ i < 17) → A2 i = A i) (h10 : 0 ≤ A2 10 ∧ A2 10 ≤ 500) (hl : li A2) (hj : lj9 A2) : Iv9 A2 := by
  obtain ⟨c, g1, g2, g3, g4, g5, g6, g7, g8, g9⟩ := h
  have e0 := e 0 (by decide) (by decide) (by decide) (by decide) (by decide)
  have e1 := e 1 (by decide) (by decide) (by decide) (by decide) (by decide)
  have e2 := e 2 (by decide) (by decide) (by decide) (by decide) (by decide)
  have e3 := e 3 (by decide) (by decide) (by decide) (by decide) (by decide)
  have e4 := e 4 (by decide) (by decide) (by decide) (by decide) (by decide)
  have e5 := e 5 (by decide) (by decide) (by decide) (by decide) (by decide)
  have e6 := e 6 (by decide) (by decide) (by decide) (by decide) (by decide)
  have e7 := e 7 (by decide) (by decide) (by decide) (by decide) (by decide)
  have e8 := e 8 (by decide) (by decide) (by decide) (by decide) (by decide)
  have e9 := e 9 (by decide) (by decide) (by decide) (by decide) (by decide)
  have e13 := e 13 (by decide) (by decide) (by decide) (by decide) (by decide)
  have c2 := c
  unfold cn at c2
  refine ⟨?_, wi_c e1 (by omega) (by omega) (fun i a b => e i (by omega) (by omega) (by omega) (by omega) (by omega)) g1, si_c e2 (by omega) (by omega) (fun i a b => e i (by omega) (by omega) (by omega) (by omega) (by omega)) g2, mI_c e3 (by omega) (by omega) (fun i a b => e i (by omega) (by omega) (by omega) (by omega) (by omega)) g3, hi_c e4 (by omega) (by omega) (fun i a b => e i (by omega) (by omega) (by omega) (by omega) (by omega)) g4, bI_c e5 (by omega) (by omega) (fun i a b => e i (by omega) (by omega) (by omega) (by omega) (by omega)) g5, ci_c e6 (by omega) (fun i a b => e i (by omega) (by omega) (by omega) (by omega) (by omega)) g6, pi_c e7 (by omega) (fun i a b => e i (by omega) (by omega) (by omega) (by omega) (by omega)) g7, hl, hj⟩
  unfold cn
  omega
theorem ct_kd : ∀ (f : Nat) (s : Nat → Nat → Int), pI s → s 0 10 + (mu9 s : Int) ≤ 900 → pI (ctw f s) ∧ kd9 s (ctw f s)
  | 0, s, h, _ => ⟨h, kd_r s⟩
  | f + 1, s, h, hm => by
    by_cases c : s 0 9 = 0 ∧ ¬ s 0 5 = 0
    · rw [ctw_s (by omega) c]
      have lm := ln_mu h (by omega) c.2
      have z := ct_kd f (lnS s) lm.1 (by omega)
      exact ⟨z.1, kd_t lm.2.1 z.2⟩
    · rw [ctw_x c]
      exact ⟨h, kd_r s⟩
theorem ct0_v (σ : Nat → Nat → Int) : ct0 σ 1 = ua (ua (ua (σ 1) 10 0) 11 0) 12 (-1) ∧ (∀ j, j ≠ 0 → j ≠ 1 → ct0 σ j = σ j) ∧ ct0 σ 0 10 = 0 := by
  unfold ct0
  refine ⟨?_, fun j h0 h1 => ?_, ?_⟩
  · simp only [u2_sA]
    rw [sA_ne _ _ (by decide), sA_ne _ _ (by decide), sA_at, sA_at, sA_ne _ _ (by decide), sA_at, sA_ne _ _ (by decide)]
  · simp only [u2_sA]
    rw [sA_ne _ _ h0, sA_ne _ _ h0, sA_ne _ _ h1, sA_ne _ _ h1, sA_ne _ _ h0, sA_ne _ _ h1, sA_ne _ _ h0]
  · rw [u2_sA, sA_at, ua_at]
/-- the reference's state while contract is read -/
theorem ctf_v (hσ : rg σ) (hc : 0 ≤ σ 1 10 ∧ σ 1 10 ≤ 500) : pI (ctf σ) ∧ (∀ i, i ≠ 10 → i ≠ 11 → i ≠ 12 → ctf σ 1 i = σ 1 i) ∧ ctf σ 1 10 = 0 ∧ ∀ j, j ≠ 0 → j ≠ 1 → j ≠ 3 → j ≠ 4 → ctf σ j = σ j := by
  obtain ⟨v1, v2, v3⟩ := ct0_v σ
  have p0 := ct0_p hσ hc
  have p1 := pI_ad p0
  have mu := mu_le p1
  have k1 : kd9 (ct0 σ) (adS (ct0 σ)) := kd_k (ke_ad _)
  have e10 : adS (ct0 σ) 0 10 = 0 := (ke_ad (ct0 σ)).1.trans v3
  obtain ⟨q1, q2⟩ := ct_kd fu9 (adS (ct0 σ)) p1 (by omega)
  have k := kd_t k1 q2
  have e1 : ∀ i, i ≠ 11 → i ≠ 12 → ctf σ 1 i = ct0 σ 1 i := fun i a b => k.2.1 i a b
  refine ⟨q1, fun i a b c => ?_, ?_, fun j a b c d => (k.2.2.1 j a b c d).trans (v2 j a b)⟩
  · rw [e1 i b c, v1, ua_ne _ _ c, ua_ne _ _ b, ua_ne _ _ a]
  · rw [e1 10 (by decide) (by decide), v1, ua_ne _ _ (by decide), ua_ne _ _ (by decide), ua_at]
theorem cpA_v (A R : Nat → Int) (nw : Nat) : ∀ m i : Nat, cpA A R nw m i = if 800 + 320 * nw ≤ i ∧ i < 800 + 320 * nw + m then R (i - (800 + 320 * nw)) else A i
  | 0, i => by rw [if_neg (by omega)]; rfl
  | m + 1, i => by
    unfold cpA
    by_cases c : i = 800 + 320 * nw + m
    · rw [c, ua_at, if_pos (by omega), show 800 + 320 * nw + m - (800 + 320 * nw) = m by omega]
    · rw [ua_ne _ _ c, cpA_v A R nw m i]
      by_cases d : 800 + 320 * nw ≤ i ∧ i < 800 + 320 * nw + m
      · rw [if_pos d, if_pos (by omega)]
      · rw [if_neg d, if_neg (by omega)]
/-- the state's rows behind a contract that was read -/
def ctA (A R : Nat → Int) (nw : Nat) (ls : Int) : Nat → Int := ua (cpA A R nw 320) (14 + nw) ls
theorem ctA_n (A R : Nat → Int) {nw : Nat} (hw : nw < 3) (ls : Int) (i : Nat) (hi : i < 320) : ctA A R nw ls (800 + 320 * nw + i) = R i := by
  unfold ctA
  rw [ua_ne _ _ (by omega), cpA_v, if_pos (by omega), show 800 + 320 * nw + i - (800 + 320 * nw) = i by omega]
theorem ctA_o (A R : Nat → Int) {nw : Nat} (hw : nw < 3) (ls : Int) {i : Nat} (h1 : i ≠ 14 + nw) (h2 : i < 800 + 320 * nw ∨ 800 + 320 * nw + 320 ≤ i) : ctA A R nw ls i = A i := by
  unfold ctA
  rw [ua_ne _ _ h1, cpA_v, if_neg (by omega)]
theorem ms_ct {T : Nat → Nat → Int} {nw : Int} (h : Ms9 σ) (hD : ctf σ 1 11 = 0 → Dt9 0 T (ctf σ)) : Ms9 (ctS σ nw) := by
  obtain ⟨g1, g2, g3, g4, g5⟩ := h
  have hc := g2.1
  have c10 : 0 ≤ σ 1 10 ∧ σ 1 10 ≤ 500 := by unfold cn at hc; omega
  obtain ⟨v1, v2, v3⟩ := ct0_v σ
  obtain ⟨f1, f2, f3, f4⟩ := ctf_v g1 c10
  have l8 : li (σ 1) := g2.2.2.2.2.2.2.2.2.1
  have l9 : lj9 (σ 1) := g2.2.2.2.2.2.2.2.2.2
  unfold ctS
  by_cases ok : ¬ (0 ≤ nw ∧ nw ≤ 2)
  · rw [if_pos ok]
    have eA : ∀ i, i ≠ 10 → i ≠ 11 → i ≠ 12 → ct0 σ 1 i = σ 1 i := fun i a b c => by rw [v1, ua_ne _ _ c, ua_ne _ _ b, ua_ne _ _ a]
    have e10 : ct0 σ 1 10 = 0 := by rw [v1]; rfl
    refine ⟨(ct0_p g1 c10).1, iv_ct g2 (fun i a b c d _ => eA i b c d) (by rw [e10]; decide) (li_c (fun i hi => eA i (by omega) (by omega) (by omega)) l8) (lj_c (fun i hi => eA i (by omega) (by omega) (by omega)) l8 l9), fun k hk hne => ?_, by rw [v2 7 (by decide) (by decide)]; exact g4, by rw [v2 9 (by decide) (by decide)]; exact g5⟩
    rw [v2 2 (by decide) (by decide)] at hne
    exact Iv9_c (fun i _ => eA _ (by omega) (by omega) (by omega)) (g3 k hk hne)
  · rw [if_neg ok]
    by_cases fa : ¬ ctf σ 1 11 = 0
    · rw [if_pos fa]
      refine ⟨f1.1, iv_ct g2 (fun i a b c d _ => f2 i b c d) (by rw [f3]; decide) (li_c (fun i hi => f2 i (by omega) (by omega) (by omega)) l8) (lj_c (fun i hi => f2 i (by omega) (by omega) (by omega)) l8 l9), fun k hk hne => ?_, by rw [f4 7 (by decide) (by decide) (by decide) (by decide)]; exact g4, by rw [f4 9 (by decide) (by decide) (by decide) (by decide)]; exact g5⟩
      rw [f4 2 (by decide) (by decide) (by decide) (by decide)] at hne
      exact Iv9_c (fun i _ => f2 _ (by omega) (by omega) (by omega)) (g3 k hk hne)
    · rw [if_neg fa]
      obtain ⟨nv, hnv⟩ : ∃ q : Nat, nw = (q : Int) := ⟨nw.toNat, by omega⟩
      subst hnv
      rw [Int.toNat_natCast]
      have hw : nv < 3 := by omega
      obtain ⟨d1, d2, d3, d4, d5⟩ := hD (by omega)
      obtain ⟨ls, hls⟩ : ∃ q, q = ctf σ 0 10 := ⟨_, rfl⟩
      rw [← hls] at d2 d3 ⊢
      have eN : ∀ i, i < 320 → ctA (ctf σ 1) (ctf σ 3) nv ls (800 + 320 * nv + i) = ctf σ 3 i := fun i hi => ctA_n _ _ hw ls i hi
      have eO : ∀ i, i ≠ 14 + nv → (i < 800 + 320 * nv ∨ 800 + 320 * nv + 320 ≤ i) → i ≠ 10 → i ≠ 11 → i ≠ 12 → ctA (ctf σ 1) (ctf σ 3) nv ls i = σ 1 i := fun i a b c d e => (ctA_o _ _ hw ls a b).trans (f2 i c d e)
      have eL : ctA (ctf σ 1) (ctf σ 3) nv ls (14 + nv) = ls := ua_at _ _ _
      have e10 : ctA (ctf σ 1) (ctf σ 3) nv ls 10 = 0 := (ctA_o _ _ hw ls (by omega) (by omega)).trans f3
      have liN : li (ctA (ctf σ 1) (ctf σ 3) nv ls) := by
        intro w hw3
        by_cases c : w = nv
        · subst c
          refine ⟨by rw [eL]; exact d2, fun k hk => ?_⟩
          rw [eL] at hk
          have r := (d3 k hk).2.2.1
          rw [show 800 + 320 * w + 20 * k = 800 + 320 * w + (20 * k) from rfl, eN _ (by omega)]
          exact r
        · have z := l8 w hw3
          refine ⟨by rw [eO _ (by omega) (by omega) (by omega) (by omega) (by omega)]; exact z.1, fun k hk => ?_⟩
          rw [eO _ (by omega) (by omega) (by omega) (by omega) (by omega)] at hk
          have z1 := z.1
          rw [eO _ (by omega) (by omega) (by omega) (by omega) (by omega)]
          exact z.2 k hk
      have ljN : lj9 (ctA (ctf σ 1) (ctf σ 3) nv ls) := by
        intro w hw3 k hk
        by_cases c : w = nv
        · subst c
          rw [eL] at hk
          obtain ⟨y1, y2, y3, y4, y5, y6⟩ := d3 k hk
          rw [show 800 + 320 * w + 20 * k + 17 = 800 + 320 * w + (20 * k + 17) by omega, show 800 + 320 * w + 20 * k + 18 = 800 + 320 * w + (20 * k + 18) by omega, eN _ (by omega), eN _ (by omega)]
          refine ⟨y4, y5, fun t ht => ?_⟩
          rw [show 800 + 320 * w + 20 * k = 800 + 320 * w + (20 * k) from rfl, eN _ (by omega)] at ht
          have r := y6 t ht
          have t4 : t < 4 := by omega
          rw [show 800 + 320 * w + 20 * k + 1 + 4 * t + 1 = 800 + 320 * w + (20 * k + 1 + 4 * t + 1) by omega, show 800 + 320 * w + 20 * k + 1 + 4 * t + 2 = 800 + 320 * w + (20 * k + 1 + 4 * t + 2) by omega, show 800 + 320 * w + 20 * k + 1 + 4 * t + 3 = 800 + 320 * w + (20 * k + 1 + 4 * t + 3) by omega, eN _ (by omega), eN _ (by omega), eN _ (by omega)]
          exact ⟨r.2.2.2.2.1, r.2.2.2.2.2.1, r.2.2.2.2.2.2⟩
        · have z := l8 w hw3
          rw [eO _ (by omega) (by omega) (by omega) (by omega) (by omega)] at hk
          have z1 := z.1
          have z2 := z.2 k hk
          have y := l9 w hw3 k hk
          rw [eO _ (by omega) (by omega) (by omega) (by omega) (by omega), eO _ (by omega) (by omega) (by omega) (by omega) (by omega)]
          refine ⟨y.1, y.2.1, fun t ht => ?_⟩
          rw [eO _ (by omega) (by omega) (by omega) (by omega) (by omega)] at ht
          rw [eO _ (by omega) (by omega) (by omega) (by omega) (by omega), eO _ (by omega) (by omega) (by omega) (by omega) (by omega), eO _ (by omega) (by omega) (by omega) (by omega) (by omega)]
          exact y.2.2 t ht
      have inN : ∀ i, inI (ctA (ctf σ 1) (ctf σ 3) nv ls i) := fun i => in_ua (cpA_in (f1.1 1) (f1.1 3) 320) (by rw [hls]; exact f1.1 0 10) i
      show Ms9 (sA (ctf σ) 1 (ctA (ctf σ 1) (ctf σ 3) nv ls))
      refine ⟨rg_sA f1.1 inN, by rw [sA_at]; exact iv_ct g2 (fun i a b c d e => eO i (by omega) (by omega) b c d) (by rw [e10]; decide) liN ljN, fun k hk hne => ?_, by rw [sA_ne _ _ (by decide), f4 7 (by decide) (by decide) (by decide) (by decide)]; exact g4, by rw [sA_ne _ _ (by decide), f4 9 (by decide) (by decide) (by decide) (by decide)]; exact g5⟩
      rw [sA_ne _ _ (by decide), f4 2 (by decide) (by decide) (by decide) (by decide)] at hne
      rw [sA_at]
      exact Iv9_c (fun i _ => eO _ (by omega) (by omega) (by omega) (by omega) (by omega)) (g3 k hk hne)
end MCT
