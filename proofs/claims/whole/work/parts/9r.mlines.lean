/-! a line: the class's against the reference's -/
section LNS
variable {A : Nat → Int} {n : Int} {τ s T t : Nat → Nat → Int} {k pk : Nat}
def F9q (t : Nat → Nat → Int) (k : Nat) (dc nn : Int) : Nat → Nat → Int := ln6 (puS (puS (puS t 0 (k : Int)) 17 dc) 18 nn)
theorem f9_o (t : Nat → Nat → Int) (k : Nat) (dc nn : Int) {j : Nat} (h0 : j ≠ 0) (h3 : j ≠ 3) : F9q t k dc nn j = t j := by
  unfold F9q ln6
  rw [u2_sA, sA_ne _ _ h0, pu_o _ _ _ h3, pu_o _ _ _ h3, pu_o _ _ _ h3]
theorem f9_0 (t : Nat → Nat → Int) (k : Nat) (dc nn : Int) : F9q t k dc nn 0 = ua (t 0) 10 (t 0 10 + 1) := by
  unfold F9q ln6
  rw [u2_sA, sA_at, pu_o _ _ _ (by decide), pu_o _ _ _ (by decide), pu_o _ _ _ (by decide)]
theorem pu_3 (t : Nat → Nat → Int) (k : Nat) (v : Int) (h : t 0 10 < 16) : puS t k v 3 = ua (t 3) (20 * (t 0 10).toNat + k) v := by
  unfold puS
  rw [if_pos h, sA_at]
theorem f9_3 (t : Nat → Nat → Int) (k : Nat) (dc nn : Int) (h : t 0 10 < 16) : F9q t k dc nn 3 = ua (ua (ua (t 3) (20 * (t 0 10).toNat + 0) (k : Int)) (20 * (t 0 10).toNat + 17) dc) (20 * (t 0 10).toNat + 18) nn := by
  obtain ⟨x, hx⟩ : ∃ x, x = puS t 0 (k : Int) := ⟨_, rfl⟩
  obtain ⟨y, hy⟩ : ∃ y, y = puS x 17 dc := ⟨_, rfl⟩
  have x0 : x 0 = t 0 := by rw [hx]; exact pu_o _ _ _ (by decide)
  have y0 : y 0 = t 0 := by rw [hy]; exact (pu_o _ _ _ (by decide)).trans x0
  unfold F9q ln6
  rw [u2_sA, sA_ne _ _ (by decide), ← hx, ← hy, pu_3 y 18 nn (by rw [y0]; exact h), y0]
  have y3 : y 3 = ua (x 3) (20 * (t 0 10).toNat + 17) dc := by rw [hy, pu_3 x 17 dc (by rw [x0]; exact h), x0]
  have x3 : x 3 = ua (t 3) (20 * (t 0 10).toNat + 0) (k : Int) := by rw [hx, pu_3 t 0 _ h]
  rw [y3, x3]
theorem alT_o (τ : Nat → Nat → Int) (d : Int) {j : Nat} (h : j ≠ 100) (h2 : j ≠ 101) : alT τ d j = τ j := by
  unfold alT
  split
  · rw [sA_ne _ _ h2, sA_ne _ _ h]
  · rfl
/-- the line that ends -/
theorem dt_line {d dc nn : Int} (h : Dt9 k τ s) (hL : s 0 10 < 16) (hdc : 20 ≤ dc ∧ dc ≤ 22) (hnn : 0 ≤ nn ∧ nn ≤ 9999) (hd : d = if dc = 20 then -1 else if dc = 21 then -2 else nn) : Dt9 0 (alT τ d) (F9q s k dc nn) := by
  obtain ⟨d1, d2, d3, d4, d5⟩ := h
  obtain ⟨d6, d7, d8⟩ := d4 hL
  obtain ⟨L, hLn⟩ : ∃ L : Nat, s 0 10 = (L : Int) := ⟨(s 0 10).toNat, by omega⟩
  have eL : (s 0 10).toNat = L := by omega
  have L16 : L < 16 := by omega
  rw [eL] at d6 d8
  have c100 : alT τ d 100 0 = (L : Int) + 1 := by
    unfold alT
    rw [if_pos (by omega), sA_ne _ _ (by decide), sA_at, ua_at]; omega
  have c101 : alT τ d 101 = ua (τ 101) L d := by
    unfold alT
    rw [if_pos (by omega), sA_at, d1, eL]
  have c102 : alT τ d 102 = τ 102 := alT_o _ _ (by decide) (by decide)
  have c103 : alT τ d 103 = τ 103 := alT_o _ _ (by decide) (by decide)
  have f0 : F9q s k dc nn 0 10 = (L : Int) + 1 := by rw [f9_0, ua_at]; omega
  have f3 := f9_3 s k dc nn hL
  rw [eL] at f3
  have k3 : ∀ i, i ≠ 20 * L → i ≠ 20 * L + 17 → i ≠ 20 * L + 18 → F9q s k dc nn 3 i = s 3 i := by
    intro i h1 h2 h3
    rw [f3, ua_ne _ _ h3, ua_ne _ _ h2, ua_ne _ _ (by omega)]
  have r0 : F9q s k dc nn 3 (20 * L) = (k : Int) := by
    rw [f3, ua_ne _ _ (by omega), ua_ne _ _ (by omega), show 20 * L = 20 * L + 0 from rfl, ua_at]
  have r17 : F9q s k dc nn 3 (20 * L + 17) = dc := by rw [f3, ua_ne _ _ (by omega), ua_at]
  have r18 : F9q s k dc nn 3 (20 * L + 18) = nn := by rw [f3, ua_at]
  have row : ∀ x q, x ≤ L → q < 4 → rw8 τ (s 3) x q → rw8 (alT τ d) (F9q s k dc nn 3) x q := by
    intro x q hx hq hr
    unfold rw8 at hr ⊢
    rw [c103, k3 _ (by omega) (by omega) (by omega), k3 _ (by omega) (by omega) (by omega), k3 _ (by omega) (by omega) (by omega), k3 _ (by omega) (by omega) (by omega)]
    exact hr
  refine ⟨by rw [c100, f0], by rw [f0]; omega, fun x hx => ?_, fun h16 => ?_, fun x hx hx16 => ?_⟩
  · rw [f0] at hx
    by_cases c : x < L
    · obtain ⟨e1, e2, e3, e4, e5, e6⟩ := d3 x (by omega)
      unfold ln8 deed
      unfold deed at e1
      rw [c101, c102, ua_ne _ _ (by omega), k3 _ (by omega) (by omega) (by omega), k3 _ (by omega) (by omega) (by omega), k3 _ (by omega) (by omega) (by omega)]
      exact ⟨e1, e2, e3, e4, e5, fun q hq => row x q (by omega) (by omega) (e6 q hq)⟩
    · have e : x = L := by omega
      subst e
      unfold ln8 deed
      rw [c101, c102, ua_at, r0, r17, r18]
      exact ⟨hd, d6, by omega, hdc, hnn, fun q hq => row x q (Nat.le_refl _) (by omega) (d8 q (by omega))⟩
  · rw [f0] at h16 ⊢
    rw [show ((L : Int) + 1).toNat = L + 1 by omega, c102]
    exact ⟨d5 (L + 1) (by omega) (by omega), by omega, fun q hq => absurd hq (Nat.not_lt_zero _)⟩
  · rw [f0] at hx
    rw [c102]
    exact d5 x (by omega) hx16
/-- what stands behind a line -/
def Ln9 (A : Nat → Int) (n : Int) (L : Int) (τ s : Nat → Nat → Int) : Prop := (Ok9 A n 0 τ s ∧ s 0 10 = L + 1) ∨ Bd9 τ s
theorem sm_fin {d dc nn : Int} (h : SI9 A n k τ s) (hdc : 20 ≤ dc ∧ dc ≤ 22) (hnn : 0 ≤ nn ∧ nn ≤ 9999) (hd : d = if dc = 20 then -1 else if dc = 21 then -2 else nn) : Ln9 A n (s 0 10) (rn3 d τ) (F9q s k dc nn) := by
  rcases Or.symm h with bd | ⟨co, hf⟩
  · have b6 := bd.1
    unfold rn3
    rw [if_neg (by omega)]
    exact Or.inr (bd_u bd (by rw [f9_0]; rfl) (f9_o _ _ _ _ (by decide) (by decide)))
  · unfold rn3
    rw [if_pos co.2.1]
    have a44 : alT τ d 44 = τ 44 := alT_o _ _ (by decide) (by decide)
    have fi : ∀ i, i ≤ 8 → F9q s k dc nn 0 i = s 0 i := fun i hi => by rw [f9_0, ua_ne _ _ (by omega)]
    have f1 : F9q s k dc nn 1 = s 1 := f9_o _ _ _ _ (by decide) (by decide)
    refine Or.inl ⟨⟨cur_k co.1 (by rw [a44]) (by rw [a44]) (alT_o _ _ (by decide) (by decide)) (alT_o _ _ (by decide) (by decide)) fi (fun i _ => by rw [f1]), by rw [a44]; exact co.2.1, by rw [f9_0, ua_ne _ _ (by decide)]; exact co.2.2, ?_⟩, by rw [f9_0, ua_at]⟩
    rcases hf with ⟨⟨z1, z2, z3, z4⟩, z5⟩ | ⟨z1, z2, z3⟩
    · exact Or.inl ⟨by rw [a44]; exact z1, by rw [f1]; exact z2, by rw [f1]; exact z3, dt_line z4 z5 hdc hnn hd⟩
    · exact Or.inr ⟨by rw [f1]; exact z1, by rw [f1]; exact z2, by rw [a44, f1]; exact z3⟩
theorem mu_10 (s : Nat → Nat → Int) (w : Int) : (muS s w) 0 10 = s 0 10 := by
  unfold muS
  split
  · show adS s 0 10 = _
    rw [show adS s 0 = adv9 (s 1) (s 0) from sA_at _ _ _, adv_o (Or.inr (by decide))]
  · unfold stS
    split
    · rfl
    · rw [u2_o (by omega), u2_o (by omega), u2_o (by omega)]
theorem nb_10 (s : Nat → Nat → Int) : (nbS s) 0 10 = s 0 10 := by
  unfold nbS
  split
  · rw [show adS s 0 = adv9 (s 1) (s 0) from sA_at _ _ _, adv_o (Or.inr (by decide))]
  · unfold stS
    split
    · rfl
    · rw [u2_o (by omega), u2_o (by omega), u2_o (by omega)]
theorem sm_ln5 (hn : byn9 A n) {d dc nn : Int} (h : SI9 A n k τ s) (hdc : 20 ≤ dc ∧ dc ≤ 22) (hnn : 0 ≤ nn ∧ nn ≤ 9999) (hd : d = if dc = 20 then -1 else if dc = 21 then -2 else nn) : Ln9 A n (s 0 10) (rn3 d (tks τ 3 3)) (ln5 k dc nn s) := by
  have a := sm_fin (si_mu hn (c := 3) (Or.inr rfl) h) hdc hnn hd
  rw [mu_10] at a
  exact a
theorem bd_rn2 (h : Bd9 τ s) : rn2 τ = τ := by
  have b6 := h.1
  have e : rds τ = τ := by
    unfold rds
    rw [(bd_tks h 13 13).1, (bd_tks h 100 10099).1, (bd_tks h 11 12).1]
    split <;> rfl
  unfold rn2 rn3
  rw [e, (bd_tks h 3 3).1, if_neg (by omega)]
theorem sm_ln3 (hn : byn9 A n) (h : SI9 A n k τ s) : Ln9 A n (s 0 10) (rn2 τ) (ln3 (k, s)) := by
  rcases Or.symm h with bd | ⟨co, hf⟩
  · have b9 := bd.2.1
    rw [bd_rn2 bd]
    unfold ln3
    dsimp only
    rw [if_neg (by omega), st_id b9]
    exact Or.inr bd
  have cv9 := ctk_v co.1.2.2.2.2.1
  have cT := co.1.2.2.1
  have ad10 : ∀ x : Nat → Nat → Int, adS x 0 10 = x 0 10 := fun x => by rw [show adS x 0 = adv9 (x 1) (x 0) from sA_at _ _ _, adv_o (Or.inr (by decide))]
  unfold ln3
  dsimp only
  by_cases g : s 0 5 = 3 ∧ (20 ≤ s 0 8 ∧ s 0 8 ≤ 22)
  · rw [if_pos ⟨co.2.2, g⟩]
    unfold ln4
    by_cases g22 : s 0 8 = 22
    · rw [if_pos g22]
      have e13 : tkT τ = 13 := by rw [cT]; omega
      obtain ⟨c1, k1, v1⟩ := (co_tks hn (fi := 13) (la := 13) (G := s 0 5 = 3 ∧ s 0 8 = 22) (by omega) co (by omega)).1 ⟨g.1, g22⟩
      have hf1 := fl_kp hf k1
      unfold rn2 rdv rds
      rw [if_pos e13, if_pos e13]
      have cv1 := ctk_v c1.1.2.2.2.2.1
      obtain ⟨b1, b2⟩ := co_tks hn (fi := 100) (la := 10099) (G := adS s 0 5 = 1) (by omega) c1 (by omega)
      by_cases gb : adS s 0 5 = 1
      · obtain ⟨c2, k2, v2⟩ := b1 gb
        have en : nbS (adS s) = adS (adS s) := by unfold nbS; rw [if_pos ⟨c1.2.2, gb⟩]
        have z := sm_ln5 hn (k := k) (d := tkv (tks τ 13 13) 100 10099 - 100) (dc := s 0 8) (nn := adS s 0 6) (Or.inl ⟨c2, fl_kp hf1 k2⟩) g.2 (by omega) (by rw [if_neg (by omega), if_neg (by omega)]; omega)
        rw [ad10, ad10] at z
        rw [en]
        exact z
      · have bd := (b2 gb).1
        have en : nbS (adS s) = stS (adS s) := by unfold nbS; rw [if_neg (fun z => gb z.2)]
        rw [en, (bd_tks bd 3 3).1]
        have b6 := bd.1
        have b9 := bd.2.1
        unfold rn3
        rw [if_neg (by omega)]
        have em : muS (stS (adS s)) 59 = stS (adS s) := by unfold muS; rw [if_neg (by omega), st_id b9]
        unfold ln5
        rw [em]
        exact Or.inr (bd_u bd (by show F9q (stS (adS s)) k (s 0 8) (adS s 0 6) 0 9 = _; rw [f9_0]; rfl) (f9_o _ _ _ _ (by decide) (by decide)))
    · rw [if_neg g22]
      have e13 : ¬ tkT τ = 13 := by rw [cT]; omega
      obtain ⟨c1, k1, v1⟩ := (co_tks hn (fi := 11) (la := 12) (G := s 0 5 = 3 ∧ (20 ≤ s 0 8 ∧ s 0 8 ≤ 21)) (by omega) co (by omega)).1 ⟨g.1, by omega⟩
      unfold rn2 rdv rds
      rw [if_neg e13, if_neg e13]
      have z := sm_ln5 hn (k := k) (d := if tkv τ 11 12 = 11 then -1 else -2) (dc := s 0 8) (nn := 0) (Or.inl ⟨c1, fl_kp hf k1⟩) g.2 (by decide) (by
        rcases (by omega : s 0 8 = 20 ∨ s 0 8 = 21) with e | e
        · rw [if_pos (by omega), if_pos e]
        · rw [if_neg (by omega), if_neg (by omega), if_pos e])
      rw [ad10] at z
      exact z
  · rw [if_neg (fun z => g z.2)]
    have e13 : ¬ tkT τ = 13 := by rw [cT]; omega
    have bd := ((co_tks hn (fi := 11) (la := 12) (G := s 0 5 = 3 ∧ (20 ≤ s 0 8 ∧ s 0 8 ≤ 21)) (by omega) co (by omega)).2 (by omega)).1
    have b6 := bd.1
    unfold rn2 rn3 rds
    rw [if_neg e13, (bd_tks bd 3 3).1, if_neg (by omega)]
    exact Or.inr bd
end LNS
