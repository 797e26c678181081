/-! what is always so of the class's cells, kept by the other tellers -/
section CIG
variable {ar : Nat → ClassId} {b : Nat} {w0 w9 : zcW} {n n9 e0 e9 : Nat} {A : Nat → Int} {σ τ σ9 τ9 T : Nat → Nat → Int} {Ow : Nat → Nat}
/-- nothing is made -/
theorem ci_gen (hC : CI9 ar b w0 n e0 Ow σ τ) (s2 : σ9 2 = σ 2) (s1 : ∀ i, 2260 ≤ i → σ9 1 i = σ 1 i) (hL : ∀ j, isj9 j → τ9 j = τ j) (h23 : τ9 23 = τ 23) (hR : Rel9 ar b w0 (σ9 1) τ9) (hb : byt9 τ9) (h13 : ∀ i, i < 6 → inI (τ9 13 i)) : CI9 ar b w0 n e0 Ow σ9 τ9 := by
  obtain ⟨hH, hI, hfree, hbn, he0⟩ := hC
  refine ⟨⟨hR, fun j hj => by rw [hL j hj]; exact hH.2.1 j hj, hb, h13⟩, fun k hk => ?_, hfree, hbn, he0⟩
  have es : shf9 σ9 k = shf9 σ k := by
    funext i
    exact s1 _ (by omega)
  rcases hI k hk with ⟨y1, y2⟩ | ⟨y1, x2, T2, y2, y3, y4⟩
  · exact Or.inl ⟨by rw [h23]; exact y1, by rw [s2]; exact y2⟩
  · exact Or.inr ⟨by rw [s2]; exact y1, x2, T2, by rw [h23]; exact y2, y3, by rw [es]; exact y4⟩
/-- a question that uses scratch cells -/
theorem ci_scr (hC : CI9 ar b w0 n e0 Ow σ τ) (s1 : σ9 1 = σ 1) (s2 : σ9 2 = σ 2) (ht : ∀ j, j ≤ 14 → j ≠ 12 → τ9 j = τ j) (h12 : τ9 12 0 = τ 12 0) (h23 : τ9 23 = τ 23) : CI9 ar b w0 n e0 Ow σ9 τ9 := by
  have hR := hC.1.1
  refine ci_gen hC s2 (fun i _ => by rw [s1]) (fun j hj => ht j (by have := isj_lt hj; omega) (by have := isj_lt hj; omega)) h23 ?_ (fun i hi => by rw [ht 9 (by decide) (by decide)]; exact hC.1.2.2.1 i hi) (fun i hi => by rw [ht 13 (by decide) (by decide)]; exact hC.1.2.2.2 i hi)
  unfold Rel9
  rw [s1, h12, ht 1 (by decide) (by decide), ht 2 (by decide) (by decide), ht 3 (by decide) (by decide), ht 4 (by decide) (by decide), ht 5 (by decide) (by decide), ht 6 (by decide) (by decide), ht 7 (by decide) (by decide), ht 8 (by decide) (by decide), ht 9 (by decide) (by decide), ht 10 (by decide) (by decide), ht 11 (by decide) (by decide), ht 13 (by decide) (by decide), ht 14 (by decide) (by decide)]
  exact hR
theorem rel_kp (K : kp9 b w0 w9 n e9) (hd : ∀ j, isj9 j → T j 1 ≠ (e9 : Int)) (g : Rel9 ar b w0 A T) : Rel9 ar b w9 A T :=
  ⟨g.i, kp_l K (hd 2 (by unfold isj9; decide)) g.l2, kp_l K (hd 3 (by unfold isj9; decide)) g.l3, kp_l K (hd 6 (by unfold isj9; decide)) g.l6, kp_l K (hd 7 (by unfold isj9; decide)) g.l7, kp_l K (hd 8 (by unfold isj9; decide)) g.l8, g.own, g.sum, g.tape, fun k hk => let ⟨p, q1, q2⟩ := g.con k hk; ⟨p, q1, kp_c K q2⟩, g.calls, g.sorts, g.worths⟩
/-- one more on a list -/
theorem ci_add {j sz N9 ci : Nat} {fs : List Value} {f9 : Nat → Option Nat} {m9 : Int} {xr : vw_C} (hC : CI9 ar b w0 n e0 Ow σ τ) (hj : isj9 j) (hz : τ j 2 = ((sz : Nat) : Int)) (hci : ci = ci9 j) (hxc : vwCl[ci]? = some xr) (hxk : (xr.1, "java/lang/Object") ∈ nwC) (hP : adP ar b τ w0 n e0 j sz (.inr (ci, fs)) e9 N9 f9 w9 n9) (s2 : σ9 2 = σ 2) (s1 : ∀ i, 2260 ≤ i → σ9 1 i = σ 1 i) (hR : Rel9 ar b w9 (σ9 1) (sA τ j (lv9 m9 ((e9 : Nat) : Int) (((sz : Nat) : Int) + 1)))) : CI9 ar b w9 n9 e0 (fun a => if a = e9 then 0 + j else Ow a) σ9 (sA τ j (lv9 m9 ((e9 : Nat) : Int) (((sz : Nat) : Int) + 1))) := by
  obtain ⟨hH, hI, hfree, hbn, he0⟩ := hC
  have jr := isj_lt hj
  have hb47 : b + 47 ≤ n := by omega
  have K := ad_kp (hH.2.1 j hj).1 hfree hP
  have g := rl_j hH.1 hj
  have gN : nj9 (σ 1) j = ((sz : Nat) : Int) := by rw [← g.1]; exact hz
  have n9n : n ≤ n9 := by have := hP.2.2.2.2.2.2.2.2.1; omega
  have to : ∀ q, q ≠ j → sA τ j (lv9 m9 ((e9 : Nat) : Int) (((sz : Nat) : Int) + 1)) q = τ q := fun q hq => sA_ne _ _ hq
  have hall := lq_i (hci ▸ g) hxc hxk gN
  refine ⟨⟨hR, lq_a hb47 hH.2.1 hj hz hfree hxc hxk hall hP, fun i hi => ?_, fun i hi => ?_⟩, fun k hk => ?_, lq_f hb47 hfree hP, by omega, he0⟩
  · rw [to 9 (by unfold isj9 at hj; omega)]; exact hH.2.2.1 i hi
  · rw [to 13 (by unfold isj9 at hj; omega)]; exact hH.2.2.2 i hi
  · have es : shf9 σ9 k = shf9 σ k := by
      funext i
      exact s1 _ (by omega)
    rcases hI k hk with ⟨y1, y2⟩ | ⟨y1, x2, T2, y2, y3, y4⟩
    · exact Or.inl ⟨by rw [to 23 (by omega)]; exact y1, by rw [s2]; exact y2⟩
    · have l1 := y3.1
      have l2 := y3.2.1
      have hd : ∀ q, isj9 q → T2 q 1 ≠ (e9 : Int) := fun q hq => lq_d hH.2.1 y4.2.1 hj hq (by have := isj_lt hq; omega) hP
      have ne : ∀ i, 1 ≤ i → i < 23 → x2 + i ≠ e9 := by
        intro i h1 h2 z
        have o1 := y3.2.2.2 i ⟨h1, h2⟩
        rcases hP.2.2.2.2.2.2.2.2.1 with ⟨q1, q2, _⟩ | ⟨q1, _⟩
        · have o2 := (hH.2.1 j hj).2 e9 q1 hP.2.2.2.2.2.2.1
          rw [z] at o1
          omega
        · omega
      refine Or.inr ⟨by rw [s2]; exact y1, x2, T2, by rw [to 23 (by omega)]; exact y2, ⟨by omega, y3.2.1, fun q hq => ?_, fun i hi => ?_⟩, by rw [es]; exact rel_kp K hd y4.1, lq_k K n9n y4.2.1 hd, y4.2.2⟩
      · rw [hP.2.2.2.2.2.2.2.2.2.2 (x2 + q) (Or.inr (Or.inr (by omega))) (ne q (by omega) (by omega)) (by omega)]
        exact y3.2.2.1 q hq
      · show (if x2 + i = e9 then 0 + j else Ow (x2 + i)) = _
        rw [if_neg (ne i hi.1 hi.2)]
        exact y3.2.2.2 i hi
end CIG
