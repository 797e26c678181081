/-! the relation is kept when a new object comes onto a list -/
def kp9 (b : Nat) (w0 w9 : zcW) (n e9 : Nat) : Prop := (∀ a, nf9 b a → a ≠ e9 → a ≠ n → w9 a = w0 a) ∧ w0 n = none ∧ ∀ x, w0 e9 = some x → ∃ (c9 : ClassId) (N : Nat) (f : Nat → Option Nat), x = .inl (c9, N, .inr (.inr (.inr (.inr f))))
section KP
variable {ar : Nat → ClassId} {b : Nat} {w0 w9 : zcW} {n e9 : Nat} {A : Nat → Int} {τ : Nat → Nat → Int}
theorem kp_ob (h : kp9 b w0 w9 n e9) {p ci : Nat} {fs : List Value} (g : ob9 b w0 p ci fs) : ob9 b w9 p ci fs := by
  refine ⟨g.1, (h.1 p g.1 (fun z => ?_) (fun z => ?_)).trans g.2⟩
  · obtain ⟨c9, N, f, q⟩ := h.2.2 _ (z ▸ g.2)
    exact absurd q (by simp)
  · have := g.2
    rw [z, h.2.1] at this
    exact absurd this (by simp)
theorem kp_ia (h : kp9 b w0 w9 n e9) {p N : Nat} {f : Nat → Int} (g : ia9 ar b w0 p N f) : ia9 ar b w9 p N f := by
  refine ⟨g.1, (h.1 p g.1 (fun z => ?_) (fun z => ?_)).trans g.2⟩
  · obtain ⟨c9, N, f, q⟩ := h.2.2 _ (z ▸ g.2)
    exact absurd q (by simp)
  · have := g.2
    rw [z, h.2.1] at this
    exact absurd this (by simp)
theorem kp_it (h : kp9 b w0 w9 n e9) {t : Nat → Int} {i p : Nat} (ht : t 1 ≠ (e9 : Int)) (g : it9q ar b w0 t i p) : it9q ar b w9 t i p := by
  obtain ⟨e, N, f, g1, g2, g3, g4⟩ := g
  refine ⟨e, N, f, g1, g2, (h.1 e g2 (fun z => ht (by rw [g1, z])) (fun z => ?_)).trans g3, g4⟩
  rw [z, h.2.1] at g3
  exact absurd g3 (by simp)
theorem kp_l (h : kp9 b w0 w9 n e9) {t : Nat → Int} {N : Int} {ci : Nat} {fs : Nat → List Value} (ht : t 1 ≠ (e9 : Int)) (g : rlL ar b w0 t N ci fs) : rlL ar b w9 t N ci fs :=
  ⟨g.1, fun i hi => let ⟨p, q1, q2⟩ := g.2 i hi; ⟨p, kp_it h ht q1, kp_ob h q2⟩⟩
theorem kp_c (h : kp9 b w0 w9 n e9) {k p : Nat} (g : rlC ar b w0 A k p) : rlC ar b w9 A k p := by
  obtain ⟨pd, pc, pt, fd, fc, ft, h1, h2, h3, h4, h5⟩ := g
  exact ⟨pd, pc, pt, fd, fc, ft, kp_ob h h1, kp_ia h h2, kp_ia h h3, kp_ia h h4, h5⟩
theorem ad_kp {e0 j sz N9 n9 : Nat} {X : va_E} {f9 : Nat → Option Nat} (hI : lsq9 ar b w0 n e0 (τ j)) (hfree : ∀ a, n ≤ a → w0 a = none) (hP : adP ar b τ w0 n e0 j sz X e9 N9 f9 w9 n9) : kp9 b w0 w9 n e9 := by
  obtain ⟨p1, p2, p3, p4, p5, p6, p7, p8, p9, p10, p11⟩ := hP
  refine ⟨p11, hfree n (Nat.le_refl _), fun x hx => ?_⟩
  rcases p9 with ⟨q1, q2, _⟩ | ⟨q1, _⟩
  · rcases hI with ⟨h1, _⟩ | ⟨e8, N, f, h1, h2, h3, h4, h5, _⟩
    · omega
    · have ee : e8 = e9 := by omega
      subst ee
      rw [h5] at hx
      exact ⟨_, N, f, (Option.some.inj hx).symm⟩
  · rw [hfree e9 (by omega)] at hx
    exact absurd hx (by simp)
theorem ad_l {e0 j sz N9 n9 ci : Nat} {f9 : Nat → Option Nat} {fs fs' : Nat → List Value} {m9 : Int} {X : va_E} (hn : b + 47 ≤ n) (hI : lsq9 ar b w0 n e0 (τ j)) (hfree : ∀ a, n ≤ a → w0 a = none) (hP : adP ar b τ w0 n e0 j sz X e9 N9 f9 w9 n9) (g : rlL ar b w0 (τ j) ((sz : Nat) : Int) ci fs) (hf : ∀ i, i < sz → fs' i = fs i) (hX : X = .inr (ci, fs' sz)) : rlL ar b w9 (lv9 m9 ((e9 : Nat) : Int) (((sz : Nat) : Int) + 1)) (((sz : Nat) : Int) + 1) ci fs' := by
  have K := ad_kp hI hfree hP
  obtain ⟨p1, p2, p3, p4, p5, p6, p7, p8, p9, p10, p11⟩ := hP
  refine ⟨rfl, fun i hi => ?_⟩
  have l2 : lv9 m9 ((e9 : Nat) : Int) (((sz : Nat) : Int) + 1) 2 = ((sz : Nat) : Int) + 1 := rfl
  by_cases c : i = sz
  · subst c
    exact ⟨n, ⟨e9, N9, f9, rfl, p6, p1, by omega, by omega, p4, by rw [l2]; omega, by rw [l2]; omega⟩, Or.inr (Or.inr hn), by rw [p10, hX]⟩
  · obtain ⟨p, q1, q2⟩ := g.2 i (by omega)
    refine ⟨p, ⟨e9, N9, f9, rfl, p6, p1, by omega, by omega, p5 i p (by omega) q1, by rw [l2]; omega, by rw [l2]; omega⟩, ?_⟩
    rw [hf i (by omega)]
    exact kp_ob K q2
/-- the list that was added to keeps its shape -/
theorem ad_s {e0 j sz N9 n9 ci : Nat} {f9 : Nat → Option Nat} {fs : List Value} {m9 : Int} {xr : vw_C} (hn : b + 47 ≤ n) (hI : lsq9 ar b w0 n e0 (τ j)) (hz : τ j 2 = ((sz : Nat) : Int)) (hfree : ∀ a, n ≤ a → w0 a = none) (hxc : vwCl[ci]? = some xr) (hxk : (xr.1, "java/lang/Object") ∈ nwC) (hall : ∀ i : Nat, i < sz → ∃ p, it9q ar b w0 (τ j) i p ∧ okE w0 p ∧ nf9 b p) (hP : adP ar b τ w0 n e0 j sz (.inr (ci, fs)) e9 N9 f9 w9 n9) : lsq9 ar b w9 n9 e0 (lv9 m9 ((e9 : Nat) : Int) (((sz : Nat) : Int) + 1)) := by
  have K := ad_kp hI hfree hP
  obtain ⟨p1, p2, p3, p4, p5, p6, p7, p8, p9, p10, p11⟩ := hP
  have l2 : lv9 m9 ((e9 : Nat) : Int) (((sz : Nat) : Int) + 1) 2 = ((sz : Nat) : Int) + 1 := rfl
  refine Or.inr ⟨e9, N9, f9, rfl, p6, by omega, p7, p1, by rw [l2]; omega, by rw [l2]; omega, by omega, p3, fun i hi y hy => ?_⟩
  rw [l2] at hi
  by_cases c : i = sz
  · subst c
    rw [p4] at hy
    have := Option.some.inj hy
    subst this
    exact ⟨⟨ci, xr, fs, p10, hxc, hxk⟩, Or.inr (Or.inr hn)⟩
  · obtain ⟨p, q1, q2, q3⟩ := hall i (by omega)
    rw [p5 i p (by omega) q1] at hy
    have := Option.some.inj hy
    subst this
    obtain ⟨c1, c2, c3, c4, c5, c6⟩ := q2
    exact ⟨⟨c1, c2, c3, (kp_ob K ⟨q3, c4⟩).2, c5, c6⟩, q3⟩
/-- another list keeps its shape -/
theorem kp_s (h : kp9 b w0 w9 n e9) {n9 e0 : Nat} (hn9 : n ≤ n9) {t : Nat → Int} (ht : t 1 ≠ (e9 : Int)) (g : lsq9 ar b w0 n e0 t) : lsq9 ar b w9 n9 e0 t := by
  rcases g with g | ⟨e8, N, f, h1, h2, h3, h4, h5, h6, h7, h8, h9, h10⟩
  · exact Or.inl g
  · refine Or.inr ⟨e8, N, f, h1, h2, by omega, h4, (h.1 e8 h2 (fun z => ht (by rw [h1, z])) (fun z => by omega)).trans h5, h6, h7, h8, h9, fun i hi y hy => ?_⟩
    have := h10 i hi y hy
    obtain ⟨c1, c2, c3, c4, c5, c6⟩ := this.1
    exact ⟨⟨c1, c2, c3, (kp_ob h ⟨this.2, c4⟩).2, c5, c6⟩, this.2⟩
end KP
section RLV
variable {ar : Nat → ClassId} {b : Nat} {w0 w9 : zcW} {n e9 : Nat} {A : Nat → Int} {τ : Nat → Nat → Int}
set_option maxHeartbeats 4000000 in
theorem rel_wire (kn : Nat) (ta : Int) (tz : Int) (mi : Int) (cr : Int) {e0 N9 n9 : Nat} {f9 : Nat → Option Nat} {m9 : Int} (hl : li A) (hc : cn A) (h : Rel9 ar b w0 A τ) (hk9 : A 1 = (kn : Int)) (hk8 : kn < 12) (hn : b + 47 ≤ n) (hI : lsq9 ar b w0 n e0 (τ 2)) (hfree : ∀ a, n ≤ a → w0 a = none) (hP : adP ar b τ w0 n e0 2 kn (.inr (10, [.int (iz ta), .int (iz tz), .int (iz mi), .int (iz cr)])) e9 N9 f9 w9 n9) (d3 : τ 3 1 ≠ (e9 : Int)) (d6 : τ 6 1 ≠ (e9 : Int)) (d7 : τ 7 1 ≠ (e9 : Int)) (d8 : τ 8 1 ≠ (e9 : Int)) : Rel9 ar b w9 (ua (ua (ua (ua (ua A (30 + 4 * kn) ta) (30 + 4 * kn + 1) tz) (30 + 4 * kn + 2) mi) (30 + 4 * kn + 3) cr) 1 (A 1 + 1)) (sA τ 2 (lv9 m9 ((e9 : Nat) : Int) (((kn : Nat) : Int) + 1))) := by
  have K := ad_kp hI hfree hP
  have e : ∀ i, (¬ i = 1 ∧ (i < 30 + 4 * kn ∨ 30 + 4 * kn + 3 < i)) → (ua (ua (ua (ua (ua A (30 + 4 * kn) ta) (30 + 4 * kn + 1) tz) (30 + 4 * kn + 2) mi) (30 + 4 * kn + 3) cr) 1 (A 1 + 1)) i = A i := by intro i hi; rw [ua_ne _ _ (by omega), ua_ne _ _ (by omega), ua_ne _ _ (by omega), ua_ne _ _ (by omega), ua_ne _ _ (by omega)]
  have v0 : (ua (ua (ua (ua (ua A (30 + 4 * kn) ta) (30 + 4 * kn + 1) tz) (30 + 4 * kn + 2) mi) (30 + 4 * kn + 3) cr) 1 (A 1 + 1)) (30 + 4 * kn + 0) = ta := by rw [ua_ne _ _ (by omega), ua_ne _ _ (by omega), ua_ne _ _ (by omega), ua_ne _ _ (by omega)]; exact ua_at _ _ _
  have v1 : (ua (ua (ua (ua (ua A (30 + 4 * kn) ta) (30 + 4 * kn + 1) tz) (30 + 4 * kn + 2) mi) (30 + 4 * kn + 3) cr) 1 (A 1 + 1)) (30 + 4 * kn + 1) = tz := by rw [ua_ne _ _ (by omega), ua_ne _ _ (by omega), ua_ne _ _ (by omega), ua_at]
  have v2 : (ua (ua (ua (ua (ua A (30 + 4 * kn) ta) (30 + 4 * kn + 1) tz) (30 + 4 * kn + 2) mi) (30 + 4 * kn + 3) cr) 1 (A 1 + 1)) (30 + 4 * kn + 2) = mi := by rw [ua_ne _ _ (by omega), ua_ne _ _ (by omega), ua_at]
  have v3 : (ua (ua (ua (ua (ua A (30 + 4 * kn) ta) (30 + 4 * kn + 1) tz) (30 + 4 * kn + 2) mi) (30 + 4 * kn + 3) cr) 1 (A 1 + 1)) (30 + 4 * kn + 3) = cr := by rw [ua_ne _ _ (by omega), ua_at]
  have vc : (ua (ua (ua (ua (ua A (30 + 4 * kn) ta) (30 + 4 * kn + 1) tz) (30 + 4 * kn + 2) mi) (30 + 4 * kn + 3) cr) 1 (A 1 + 1)) 1 = A 1 + 1 := ua_at _ _ _
  have z : rlI A (τ 1) (τ 12 0) := h.i
  unfold rlI at z
  show rlF ar b w9 (ua (ua (ua (ua (ua A (30 + 4 * kn) ta) (30 + 4 * kn + 1) tz) (30 + 4 * kn + 2) mi) (30 + 4 * kn + 3) cr) 1 (A 1 + 1)) (τ 1) (lv9 m9 ((e9 : Nat) : Int) (((kn : Nat) : Int) + 1)) (τ 3) (τ 4) (τ 5) (τ 6) (τ 7) (τ 8) (τ 9) (τ 10) (τ 11) ((τ 12) 0) (τ 13) (τ 14)
  generalize (ua (ua (ua (ua (ua A (30 + 4 * kn) ta) (30 + 4 * kn + 1) tz) (30 + 4 * kn + 2) mi) (30 + 4 * kn + 3) cr) 1 (A 1 + 1)) = A2 at e vc v0 v1 v2 v3 ⊢
  refine ⟨?_, ?_, ?_, ?_, ?_, ?_, ?_, ?_, ?_, ?_, ?_, ?_, ?_⟩
  · unfold rlI; rw [e 0 (by omega), e 8 (by omega), e 9 (by omega), e 13 (by omega), e 10 (by omega), e 11 (by omega), e 12 (by omega), e 6 (by omega), e 7 (by omega)]; exact z
  · rw [vc, hk9]; refine ad_l (fs := fWire A) hn hI hfree hP (by have q := h.l2; rw [hk9] at q; exact q) (fun i hi => by unfold fWire; rw [e _ (by omega), e _ (by omega), e _ (by omega), e _ (by omega)]) (by unfold fWire; rw [v0, v1, v2, v3])
  · rw [e 2 (by omega)]; refine kp_l K d3 ⟨h.l3.1, fun i hi => ?_⟩; obtain ⟨p, q1, q2⟩ := h.l3.2 i hi; refine ⟨p, q1, ?_⟩; rw [show fStat A2 i = fStat A i by (unfold fStat; rw [e _ (by omega), e _ (by omega), e _ (by omega)])]; exact q2
  · rw [e 3 (by omega)]; refine kp_l K d6 ⟨h.l6.1, fun i hi => ?_⟩; obtain ⟨p, q1, q2⟩ := h.l6.2 i hi; refine ⟨p, q1, ?_⟩; rw [show fMemb A2 i = fMemb A i by (unfold fMemb; rw [e _ (by omega), e _ (by omega), e _ (by omega), e _ (by omega)])]; exact q2
  · rw [e 4 (by omega)]; refine kp_l K d7 ⟨h.l7.1, fun i hi => ?_⟩; obtain ⟨p, q1, q2⟩ := h.l7.2 i hi; refine ⟨p, q1, ?_⟩; rw [show fHour A2 i = fHour A i by (unfold fHour; rw [e _ (by omega), e _ (by omega), e _ (by omega), e _ (by omega), e _ (by omega), e _ (by omega), e _ (by omega), e _ (by omega)])]; exact q2
  · rw [e 5 (by omega)]; refine kp_l K d8 ⟨h.l8.1, fun i hi => ?_⟩; obtain ⟨p, q1, q2⟩ := h.l8.2 i hi; refine ⟨p, q1, ?_⟩; rw [show fBrk A2 i = fBrk A i by (unfold fBrk; rw [e _ (by omega), e _ (by omega), e _ (by omega), e _ (by omega), e _ (by omega), e _ (by omega)])]; exact q2
  · intro i hi; rw [e 2 (by omega)]; have q := h.own i hi; by_cases g : (i : Int) < A 2; (rw [if_pos g] at q ⊢; rw [e _ (by omega)]; exact q); (rw [if_neg g] at q ⊢; exact q)
  · intro z hz; rw [e _ (by omega), e _ (by omega)]; exact h.sum z hz
  · intro i hi; rw [e 10 (by omega)] at hi; rw [e _ (by omega)]; exact h.tape i hi
  · intro k hk; obtain ⟨p, q1, q2⟩ := h.con k hk; have a := hl k hk; exact ⟨p, q1, kp_c K (rlC_d hk (fun i z1 => e i (by omega)) (by omega) (fun x hx => (a.2 x hx).2) q2)⟩
  · intro k q hk hq; rw [e 6 (by omega)] at hk; rw [e _ (by omega)]; exact h.calls k q hk hq
  · intro k hk; rw [e 7 (by omega)] at hk; rw [e _ (by omega)]; exact h.sorts k hk
  · intro k t hk ht; rw [e 7 (by omega), e _ (by omega)]; exact h.worths k t hk ht
set_option maxHeartbeats 4000000 in
theorem rel_station (kn : Nat) (tw : Int) (zn : Int) (pw : Int) {e0 N9 n9 : Nat} {f9 : Nat → Option Nat} {m9 : Int} (hl : li A) (hc : cn A) (h : Rel9 ar b w0 A τ) (hk9 : A 2 = (kn : Int)) (hk8 : kn < 8) (hn : b + 47 ≤ n) (hI : lsq9 ar b w0 n e0 (τ 3)) (hfree : ∀ a, n ≤ a → w0 a = none) (hP : adP ar b τ w0 n e0 3 kn (.inr (8, [.int (iz tw), .int (iz zn), .int (iz pw)])) e9 N9 f9 w9 n9) (d2 : τ 2 1 ≠ (e9 : Int)) (d6 : τ 6 1 ≠ (e9 : Int)) (d7 : τ 7 1 ≠ (e9 : Int)) (d8 : τ 8 1 ≠ (e9 : Int)) : Rel9 ar b w9 (ua (ua (ua (ua (ua A (80 + 4 * kn) tw) (80 + 4 * kn + 1) zn) (80 + 4 * kn + 2) pw) (80 + 4 * kn + 3) 0) 2 (A 2 + 1)) (sA τ 3 (lv9 m9 ((e9 : Nat) : Int) (((kn : Nat) : Int) + 1))) := by
  have K := ad_kp hI hfree hP
  have e : ∀ i, (¬ i = 2 ∧ (i < 80 + 4 * kn ∨ 80 + 4 * kn + 3 < i)) → (ua (ua (ua (ua (ua A (80 + 4 * kn) tw) (80 + 4 * kn + 1) zn) (80 + 4 * kn + 2) pw) (80 + 4 * kn + 3) 0) 2 (A 2 + 1)) i = A i := by intro i hi; rw [ua_ne _ _ (by omega), ua_ne _ _ (by omega), ua_ne _ _ (by omega), ua_ne _ _ (by omega), ua_ne _ _ (by omega)]
  have v0 : (ua (ua (ua (ua (ua A (80 + 4 * kn) tw) (80 + 4 * kn + 1) zn) (80 + 4 * kn + 2) pw) (80 + 4 * kn + 3) 0) 2 (A 2 + 1)) (80 + 4 * kn + 0) = tw := by rw [ua_ne _ _ (by omega), ua_ne _ _ (by omega), ua_ne _ _ (by omega), ua_ne _ _ (by omega)]; exact ua_at _ _ _
  have v1 : (ua (ua (ua (ua (ua A (80 + 4 * kn) tw) (80 + 4 * kn + 1) zn) (80 + 4 * kn + 2) pw) (80 + 4 * kn + 3) 0) 2 (A 2 + 1)) (80 + 4 * kn + 1) = zn := by rw [ua_ne _ _ (by omega), ua_ne _ _ (by omega), ua_ne _ _ (by omega), ua_at]
  have v2 : (ua (ua (ua (ua (ua A (80 + 4 * kn) tw) (80 + 4 * kn + 1) zn) (80 + 4 * kn + 2) pw) (80 + 4 * kn + 3) 0) 2 (A 2 + 1)) (80 + 4 * kn + 2) = pw := by rw [ua_ne _ _ (by omega), ua_ne _ _ (by omega), ua_at]
  have v3 : (ua (ua (ua (ua (ua A (80 + 4 * kn) tw) (80 + 4 * kn + 1) zn) (80 + 4 * kn + 2) pw) (80 + 4 * kn + 3) 0) 2 (A 2 + 1)) (80 + 4 * kn + 3) = 0 := by rw [ua_ne _ _ (by omega), ua_at]
  have vc : (ua (ua (ua (ua (ua A (80 + 4 * kn) tw) (80 + 4 * kn + 1) zn) (80 + 4 * kn + 2) pw) (80 + 4 * kn + 3) 0) 2 (A 2 + 1)) 2 = A 2 + 1 := ua_at _ _ _
  have z : rlI A (τ 1) (τ 12 0) := h.i
  unfold rlI at z
  show rlF ar b w9 (ua (ua (ua (ua (ua A (80 + 4 * kn) tw) (80 + 4 * kn + 1) zn) (80 + 4 * kn + 2) pw) (80 + 4 * kn + 3) 0) 2 (A 2 + 1)) (τ 1) (τ 2) (lv9 m9 ((e9 : Nat) : Int) (((kn : Nat) : Int) + 1)) (τ 4) (τ 5) (τ 6) (τ 7) (τ 8) (τ 9) (τ 10) (τ 11) ((τ 12) 0) (τ 13) (τ 14)
  generalize (ua (ua (ua (ua (ua A (80 + 4 * kn) tw) (80 + 4 * kn + 1) zn) (80 + 4 * kn + 2) pw) (80 + 4 * kn + 3) 0) 2 (A 2 + 1)) = A2 at e vc v0 v1 v2 v3 ⊢
  refine ⟨?_, ?_, ?_, ?_, ?_, ?_, ?_, ?_, ?_, ?_, ?_, ?_, ?_⟩
  · unfold rlI; rw [e 0 (by omega), e 8 (by omega), e 9 (by omega), e 13 (by omega), e 10 (by omega), e 11 (by omega), e 12 (by omega), e 6 (by omega), e 7 (by omega)]; exact z
  · rw [e 1 (by omega)]; refine kp_l K d2 ⟨h.l2.1, fun i hi => ?_⟩; obtain ⟨p, q1, q2⟩ := h.l2.2 i hi; refine ⟨p, q1, ?_⟩; rw [show fWire A2 i = fWire A i by (unfold fWire; rw [e _ (by omega), e _ (by omega), e _ (by omega), e _ (by omega)])]; exact q2
  · rw [vc, hk9]; refine ad_l (fs := fStat A) hn hI hfree hP (by have q := h.l3; rw [hk9] at q; exact q) (fun i hi => by unfold fStat; rw [e _ (by omega), e _ (by omega), e _ (by omega)]) (by unfold fStat; rw [v0, v1, v2])
  · rw [e 3 (by omega)]; refine kp_l K d6 ⟨h.l6.1, fun i hi => ?_⟩; obtain ⟨p, q1, q2⟩ := h.l6.2 i hi; refine ⟨p, q1, ?_⟩; rw [show fMemb A2 i = fMemb A i by (unfold fMemb; rw [e _ (by omega), e _ (by omega), e _ (by omega), e _ (by omega)])]; exact q2
  · rw [e 4 (by omega)]; refine kp_l K d7 ⟨h.l7.1, fun i hi => ?_⟩; obtain ⟨p, q1, q2⟩ := h.l7.2 i hi; refine ⟨p, q1, ?_⟩; rw [show fHour A2 i = fHour A i by (unfold fHour; rw [e _ (by omega), e _ (by omega), e _ (by omega), e _ (by omega), e _ (by omega), e _ (by omega), e _ (by omega), e _ (by omega)])]; exact q2
  · rw [e 5 (by omega)]; refine kp_l K d8 ⟨h.l8.1, fun i hi => ?_⟩; obtain ⟨p, q1, q2⟩ := h.l8.2 i hi; refine ⟨p, q1, ?_⟩; rw [show fBrk A2 i = fBrk A i by (unfold fBrk; rw [e _ (by omega), e _ (by omega), e _ (by omega), e _ (by omega), e _ (by omega), e _ (by omega)])]; exact q2
  · intro i hi; have q := h.own i hi; rw [vc]; by_cases c : i = kn; (subst c; rw [if_neg (by omega)] at q; rw [if_pos (by omega), v3]; exact q); (rw [e _ (by omega)]; by_cases g : (i : Int) < A 2; (rw [if_pos g] at q; rw [if_pos (by omega)]; exact q); (rw [if_neg g] at q; rw [if_neg (by omega)]; exact q))
  · intro z hz; rw [e _ (by omega), e _ (by omega)]; exact h.sum z hz
  · intro i hi; rw [e 10 (by omega)] at hi; rw [e _ (by omega)]; exact h.tape i hi
  · intro k hk; obtain ⟨p, q1, q2⟩ := h.con k hk; have a := hl k hk; exact ⟨p, q1, kp_c K (rlC_d hk (fun i z1 => e i (by omega)) (by omega) (fun x hx => (a.2 x hx).2) q2)⟩
  · intro k q hk hq; rw [e 6 (by omega)] at hk; rw [e _ (by omega)]; exact h.calls k q hk hq
  · intro k hk; rw [e 7 (by omega)] at hk; rw [e _ (by omega)]; exact h.sorts k hk
  · intro k t hk ht; rw [e 7 (by omega), e _ (by omega)]; exact h.worths k t hk ht
set_option maxHeartbeats 4000000 in
theorem rel_join (kn : Nat) (st : Int) (nw : Int) (fd : Int) {e0 N9 n9 : Nat} {f9 : Nat → Option Nat} {m9 : Int} (hl : li A) (hc : cn A) (h : Rel9 ar b w0 A τ) (hk9 : A 3 = (kn : Int)) (hk8 : kn < 40) (hn : b + 47 ≤ n) (hI : lsq9 ar b w0 n e0 (τ 6)) (hfree : ∀ a, n ≤ a → w0 a = none) (hP : adP ar b τ w0 n e0 6 kn (.inr (5, [.int (iz st), .int (iz nw), .int (iz fd), .int (iz (A 8))])) e9 N9 f9 w9 n9) (d2 : τ 2 1 ≠ (e9 : Int)) (d3 : τ 3 1 ≠ (e9 : Int)) (d7 : τ 7 1 ≠ (e9 : Int)) (d8 : τ 8 1 ≠ (e9 : Int)) : Rel9 ar b w9 (ua (ua (ua (ua (ua A (120 + 4 * kn) st) (120 + 4 * kn + 1) nw) (120 + 4 * kn + 2) fd) (120 + 4 * kn + 3) (A 8)) 3 (A 3 + 1)) (sA τ 6 (lv9 m9 ((e9 : Nat) : Int) (((kn : Nat) : Int) + 1))) := by
  have K := ad_kp hI hfree hP
  have e : ∀ i, (¬ i = 3 ∧ (i < 120 + 4 * kn ∨ 120 + 4 * kn + 3 < i)) → (ua (ua (ua (ua (ua A (120 + 4 * kn) st) (120 + 4 * kn + 1) nw) (120 + 4 * kn + 2) fd) (120 + 4 * kn + 3) (A 8)) 3 (A 3 + 1)) i = A i := by intro i hi; rw [ua_ne _ _ (by omega), ua_ne _ _ (by omega), ua_ne _ _ (by omega), ua_ne _ _ (by omega), ua_ne _ _ (by omega)]
  have v0 : (ua (ua (ua (ua (ua A (120 + 4 * kn) st) (120 + 4 * kn + 1) nw) (120 + 4 * kn + 2) fd) (120 + 4 * kn + 3) (A 8)) 3 (A 3 + 1)) (120 + 4 * kn + 0) = st := by rw [ua_ne _ _ (by omega), ua_ne _ _ (by omega), ua_ne _ _ (by omega), ua_ne _ _ (by omega)]; exact ua_at _ _ _
  have v1 : (ua (ua (ua (ua (ua A (120 + 4 * kn) st) (120 + 4 * kn + 1) nw) (120 + 4 * kn + 2) fd) (120 + 4 * kn + 3) (A 8)) 3 (A 3 + 1)) (120 + 4 * kn + 1) = nw := by rw [ua_ne _ _ (by omega), ua_ne _ _ (by omega), ua_ne _ _ (by omega), ua_at]
  have v2 : (ua (ua (ua (ua (ua A (120 + 4 * kn) st) (120 + 4 * kn + 1) nw) (120 + 4 * kn + 2) fd) (120 + 4 * kn + 3) (A 8)) 3 (A 3 + 1)) (120 + 4 * kn + 2) = fd := by rw [ua_ne _ _ (by omega), ua_ne _ _ (by omega), ua_at]
  have v3 : (ua (ua (ua (ua (ua A (120 + 4 * kn) st) (120 + 4 * kn + 1) nw) (120 + 4 * kn + 2) fd) (120 + 4 * kn + 3) (A 8)) 3 (A 3 + 1)) (120 + 4 * kn + 3) = (A 8) := by rw [ua_ne _ _ (by omega), ua_at]
  have vc : (ua (ua (ua (ua (ua A (120 + 4 * kn) st) (120 + 4 * kn + 1) nw) (120 + 4 * kn + 2) fd) (120 + 4 * kn + 3) (A 8)) 3 (A 3 + 1)) 3 = A 3 + 1 := ua_at _ _ _
  have z : rlI A (τ 1) (τ 12 0) := h.i
  unfold rlI at z
  show rlF ar b w9 (ua (ua (ua (ua (ua A (120 + 4 * kn) st) (120 + 4 * kn + 1) nw) (120 + 4 * kn + 2) fd) (120 + 4 * kn + 3) (A 8)) 3 (A 3 + 1)) (τ 1) (τ 2) (τ 3) (τ 4) (τ 5) (lv9 m9 ((e9 : Nat) : Int) (((kn : Nat) : Int) + 1)) (τ 7) (τ 8) (τ 9) (τ 10) (τ 11) ((τ 12) 0) (τ 13) (τ 14)
  generalize (ua (ua (ua (ua (ua A (120 + 4 * kn) st) (120 + 4 * kn + 1) nw) (120 + 4 * kn + 2) fd) (120 + 4 * kn + 3) (A 8)) 3 (A 3 + 1)) = A2 at e vc v0 v1 v2 v3 ⊢
  refine ⟨?_, ?_, ?_, ?_, ?_, ?_, ?_, ?_, ?_, ?_, ?_, ?_, ?_⟩
  · unfold rlI; rw [e 0 (by omega), e 8 (by omega), e 9 (by omega), e 13 (by omega), e 10 (by omega), e 11 (by omega), e 12 (by omega), e 6 (by omega), e 7 (by omega)]; exact z
  · rw [e 1 (by omega)]; refine kp_l K d2 ⟨h.l2.1, fun i hi => ?_⟩; obtain ⟨p, q1, q2⟩ := h.l2.2 i hi; refine ⟨p, q1, ?_⟩; rw [show fWire A2 i = fWire A i by (unfold fWire; rw [e _ (by omega), e _ (by omega), e _ (by omega), e _ (by omega)])]; exact q2
  · rw [e 2 (by omega)]; refine kp_l K d3 ⟨h.l3.1, fun i hi => ?_⟩; obtain ⟨p, q1, q2⟩ := h.l3.2 i hi; refine ⟨p, q1, ?_⟩; rw [show fStat A2 i = fStat A i by (unfold fStat; rw [e _ (by omega), e _ (by omega), e _ (by omega)])]; exact q2
  · rw [vc, hk9]; refine ad_l (fs := fMemb A) hn hI hfree hP (by have q := h.l6; rw [hk9] at q; exact q) (fun i hi => by unfold fMemb; rw [e _ (by omega), e _ (by omega), e _ (by omega), e _ (by omega)]) (by unfold fMemb; rw [v0, v1, v2, v3])
  · rw [e 4 (by omega)]; refine kp_l K d7 ⟨h.l7.1, fun i hi => ?_⟩; obtain ⟨p, q1, q2⟩ := h.l7.2 i hi; refine ⟨p, q1, ?_⟩; rw [show fHour A2 i = fHour A i by (unfold fHour; rw [e _ (by omega), e _ (by omega), e _ (by omega), e _ (by omega), e _ (by omega), e _ (by omega), e _ (by omega), e _ (by omega)])]; exact q2
  · rw [e 5 (by omega)]; refine kp_l K d8 ⟨h.l8.1, fun i hi => ?_⟩; obtain ⟨p, q1, q2⟩ := h.l8.2 i hi; refine ⟨p, q1, ?_⟩; rw [show fBrk A2 i = fBrk A i by (unfold fBrk; rw [e _ (by omega), e _ (by omega), e _ (by omega), e _ (by omega), e _ (by omega), e _ (by omega)])]; exact q2
  · intro i hi; rw [e 2 (by omega)]; have q := h.own i hi; by_cases g : (i : Int) < A 2; (rw [if_pos g] at q ⊢; rw [e _ (by omega)]; exact q); (rw [if_neg g] at q ⊢; exact q)
  · intro z hz; rw [e _ (by omega), e _ (by omega)]; exact h.sum z hz
  · intro i hi; rw [e 10 (by omega)] at hi; rw [e _ (by omega)]; exact h.tape i hi
  · intro k hk; obtain ⟨p, q1, q2⟩ := h.con k hk; have a := hl k hk; exact ⟨p, q1, kp_c K (rlC_d hk (fun i z1 => e i (by omega)) (by omega) (fun x hx => (a.2 x hx).2) q2)⟩
  · intro k q hk hq; rw [e 6 (by omega)] at hk; rw [e _ (by omega)]; exact h.calls k q hk hq
  · intro k hk; rw [e 7 (by omega)] at hk; rw [e _ (by omega)]; exact h.sorts k hk
  · intro k t hk ht; rw [e 7 (by omega), e _ (by omega)]; exact h.worths k t hk ht
set_option maxHeartbeats 4000000 in
theorem rel_hour (kn : Nat) (nw : Int) (dy : Int) (sl : Int) (ln : Int) (tw : Int) (so : Int) (ss : Int) {e0 N9 n9 : Nat} {f9 : Nat → Option Nat} {m9 : Int} (hl : li A) (hc : cn A) (h : Rel9 ar b w0 A τ) (hk9 : A 4 = (kn : Int)) (hk8 : kn < 24) (hn : b + 47 ≤ n) (hI : lsq9 ar b w0 n e0 (τ 7)) (hfree : ∀ a, n ≤ a → w0 a = none) (hP : adP ar b τ w0 n e0 7 kn (.inr (4, [.int (iz nw), .int (iz (48 * dy + sl)), .int (iz ln), .int (iz tw), .int (iz so), .int (iz ss), .int (iz (A 8))])) e9 N9 f9 w9 n9) (d2 : τ 2 1 ≠ (e9 : Int)) (d3 : τ 3 1 ≠ (e9 : Int)) (d6 : τ 6 1 ≠ (e9 : Int)) (d8 : τ 8 1 ≠ (e9 : Int)) : Rel9 ar b w9 (ua (ua (ua (ua (ua (ua (ua (ua (ua A (280 + 8 * kn) nw) (280 + 8 * kn + 1) dy) (280 + 8 * kn + 2) sl) (280 + 8 * kn + 3) ln) (280 + 8 * kn + 4) tw) (280 + 8 * kn + 5) so) (280 + 8 * kn + 6) ss) (280 + 8 * kn + 7) (A 8)) 4 (A 4 + 1)) (sA τ 7 (lv9 m9 ((e9 : Nat) : Int) (((kn : Nat) : Int) + 1))) := by
  have K := ad_kp hI hfree hP
  have e : ∀ i, (¬ i = 4 ∧ (i < 280 + 8 * kn ∨ 280 + 8 * kn + 7 < i)) → (ua (ua (ua (ua (ua (ua (ua (ua (ua A (280 + 8 * kn) nw) (280 + 8 * kn + 1) dy) (280 + 8 * kn + 2) sl) (280 + 8 * kn + 3) ln) (280 + 8 * kn + 4) tw) (280 + 8 * kn + 5) so) (280 + 8 * kn + 6) ss) (280 + 8 * kn + 7) (A 8)) 4 (A 4 + 1)) i = A i := by intro i hi; rw [ua_ne _ _ (by omega), ua_ne _ _ (by omega), ua_ne _ _ (by omega), ua_ne _ _ (by omega), ua_ne _ _ (by omega), ua_ne _ _ (by omega), ua_ne _ _ (by omega), ua_ne _ _ (by omega), ua_ne _ _ (by omega)]
  have v0 : (ua (ua (ua (ua (ua (ua (ua (ua (ua A (280 + 8 * kn) nw) (280 + 8 * kn + 1) dy) (280 + 8 * kn + 2) sl) (280 + 8 * kn + 3) ln) (280 + 8 * kn + 4) tw) (280 + 8 * kn + 5) so) (280 + 8 * kn + 6) ss) (280 + 8 * kn + 7) (A 8)) 4 (A 4 + 1)) (280 + 8 * kn + 0) = nw := by rw [ua_ne _ _ (by omega), ua_ne _ _ (by omega), ua_ne _ _ (by omega), ua_ne _ _ (by omega), ua_ne _ _ (by omega), ua_ne _ _ (by omega), ua_ne _ _ (by omega), ua_ne _ _ (by omega)]; exact ua_at _ _ _
  have v1 : (ua (ua (ua (ua (ua (ua (ua (ua (ua A (280 + 8 * kn) nw) (280 + 8 * kn + 1) dy) (280 + 8 * kn + 2) sl) (280 + 8 * kn + 3) ln) (280 + 8 * kn + 4) tw) (280 + 8 * kn + 5) so) (280 + 8 * kn + 6) ss) (280 + 8 * kn + 7) (A 8)) 4 (A 4 + 1)) (280 + 8 * kn + 1) = dy := by rw [ua_ne _ _ (by omega), ua_ne _ _ (by omega), ua_ne _ _ (by omega), ua_ne _ _ (by omega), ua_ne _ _ (by omega), ua_ne _ _ (by omega), ua_ne _ _ (by omega), ua_at]
  have v2 : (ua (ua (ua (ua (ua (ua (ua (ua (ua A (280 + 8 * kn) nw) (280 + 8 * kn + 1) dy) (280 + 8 * kn + 2) sl) (280 + 8 * kn + 3) ln) (280 + 8 * kn + 4) tw) (280 + 8 * kn + 5) so) (280 + 8 * kn + 6) ss) (280 + 8 * kn + 7) (A 8)) 4 (A 4 + 1)) (280 + 8 * kn + 2) = sl := by rw [ua_ne _ _ (by omega), ua_ne _ _ (by omega), ua_ne _ _ (by omega), ua_ne _ _ (by omega), ua_ne _ _ (by omega), ua_ne _ _ (by omega), ua_at]
  have v3 : (ua (ua (ua (ua (ua (ua (ua (ua (ua A (280 + 8 * kn) nw) (280 + 8 * kn + 1) dy) (280 + 8 * kn + 2) sl) (280 + 8 * kn + 3) ln) (280 + 8 * kn + 4) tw) (280 + 8 * kn + 5) so) (280 + 8 * kn + 6) ss) (280 + 8 * kn + 7) (A 8)) 4 (A 4 + 1)) (280 + 8 * kn + 3) = ln := by rw [ua_ne _ _ (by omega), ua_ne _ _ (by omega), ua_ne _ _ (by omega), ua_ne _ _ (by omega), ua_ne _ _ (by omega), ua_at]
  have v4 : (ua (ua (ua (ua (ua (ua (ua (ua (ua A (280 + 8 * kn) nw) (280 + 8 * kn + 1) dy) (280 + 8 * kn + 2) sl) (280 + 8 * kn + 3) ln) (280 + 8 * kn + 4) tw) (280 + 8 * kn + 5) so) (280 + 8 * kn + 6) ss) (280 + 8 * kn + 7) (A 8)) 4 (A 4 + 1)) (280 + 8 * kn + 4) = tw := by rw [ua_ne _ _ (by omega), ua_ne _ _ (by omega), ua_ne _ _ (by omega), ua_ne _ _ (by omega), ua_at]
  have v5 : (ua (ua (ua (ua (ua (ua (ua (ua (ua A (280 + 8 * kn) nw) (280 + 8 * kn + 1) dy) (280 + 8 * kn + 2) sl) (280 + 8 * kn + 3) ln) (280 + 8 * kn + 4) tw) (280 + 8 * kn + 5) so) (280 + 8 * kn + 6) ss) (280 + 8 * kn + 7) (A 8)) 4 (A 4 + 1)) (280 + 8 * kn + 5) = so := by rw [ua_ne _ _ (by omega), ua_ne _ _ (by omega), ua_ne _ _ (by omega), ua_at]
  have v6 : (ua (ua (ua (ua (ua (ua (ua (ua (ua A (280 + 8 * kn) nw) (280 + 8 * kn + 1) dy) (280 + 8 * kn + 2) sl) (280 + 8 * kn + 3) ln) (280 + 8 * kn + 4) tw) (280 + 8 * kn + 5) so) (280 + 8 * kn + 6) ss) (280 + 8 * kn + 7) (A 8)) 4 (A 4 + 1)) (280 + 8 * kn + 6) = ss := by rw [ua_ne _ _ (by omega), ua_ne _ _ (by omega), ua_at]
  have v7 : (ua (ua (ua (ua (ua (ua (ua (ua (ua A (280 + 8 * kn) nw) (280 + 8 * kn + 1) dy) (280 + 8 * kn + 2) sl) (280 + 8 * kn + 3) ln) (280 + 8 * kn + 4) tw) (280 + 8 * kn + 5) so) (280 + 8 * kn + 6) ss) (280 + 8 * kn + 7) (A 8)) 4 (A 4 + 1)) (280 + 8 * kn + 7) = (A 8) := by rw [ua_ne _ _ (by omega), ua_at]
  have vc : (ua (ua (ua (ua (ua (ua (ua (ua (ua A (280 + 8 * kn) nw) (280 + 8 * kn + 1) dy) (280 + 8 * kn + 2) sl) (280 + 8 * kn + 3) ln) (280 + 8 * kn + 4) tw) (280 + 8 * kn + 5) so) (280 + 8 * kn + 6) ss) (280 + 8 * kn + 7) (A 8)) 4 (A 4 + 1)) 4 = A 4 + 1 := ua_at _ _ _
  have z : rlI A (τ 1) (τ 12 0) := h.i
  unfold rlI at z
  show rlF ar b w9 (ua (ua (ua (ua (ua (ua (ua (ua (ua A (280 + 8 * kn) nw) (280 + 8 * kn + 1) dy) (280 + 8 * kn + 2) sl) (280 + 8 * kn + 3) ln) (280 + 8 * kn + 4) tw) (280 + 8 * kn + 5) so) (280 + 8 * kn + 6) ss) (280 + 8 * kn + 7) (A 8)) 4 (A 4 + 1)) (τ 1) (τ 2) (τ 3) (τ 4) (τ 5) (τ 6) (lv9 m9 ((e9 : Nat) : Int) (((kn : Nat) : Int) + 1)) (τ 8) (τ 9) (τ 10) (τ 11) ((τ 12) 0) (τ 13) (τ 14)
  generalize (ua (ua (ua (ua (ua (ua (ua (ua (ua A (280 + 8 * kn) nw) (280 + 8 * kn + 1) dy) (280 + 8 * kn + 2) sl) (280 + 8 * kn + 3) ln) (280 + 8 * kn + 4) tw) (280 + 8 * kn + 5) so) (280 + 8 * kn + 6) ss) (280 + 8 * kn + 7) (A 8)) 4 (A 4 + 1)) = A2 at e vc v0 v1 v2 v3 v4 v5 v6 v7 ⊢
  refine ⟨?_, ?_, ?_, ?_, ?_, ?_, ?_, ?_, ?_, ?_, ?_, ?_, ?_⟩
  · unfold rlI; rw [e 0 (by omega), e 8 (by omega), e 9 (by omega), e 13 (by omega), e 10 (by omega), e 11 (by omega), e 12 (by omega), e 6 (by omega), e 7 (by omega)]; exact z
  · rw [e 1 (by omega)]; refine kp_l K d2 ⟨h.l2.1, fun i hi => ?_⟩; obtain ⟨p, q1, q2⟩ := h.l2.2 i hi; refine ⟨p, q1, ?_⟩; rw [show fWire A2 i = fWire A i by (unfold fWire; rw [e _ (by omega), e _ (by omega), e _ (by omega), e _ (by omega)])]; exact q2
  · rw [e 2 (by omega)]; refine kp_l K d3 ⟨h.l3.1, fun i hi => ?_⟩; obtain ⟨p, q1, q2⟩ := h.l3.2 i hi; refine ⟨p, q1, ?_⟩; rw [show fStat A2 i = fStat A i by (unfold fStat; rw [e _ (by omega), e _ (by omega), e _ (by omega)])]; exact q2
  · rw [e 3 (by omega)]; refine kp_l K d6 ⟨h.l6.1, fun i hi => ?_⟩; obtain ⟨p, q1, q2⟩ := h.l6.2 i hi; refine ⟨p, q1, ?_⟩; rw [show fMemb A2 i = fMemb A i by (unfold fMemb; rw [e _ (by omega), e _ (by omega), e _ (by omega), e _ (by omega)])]; exact q2
  · rw [vc, hk9]; refine ad_l (fs := fHour A) hn hI hfree hP (by have q := h.l7; rw [hk9] at q; exact q) (fun i hi => by unfold fHour; rw [e _ (by omega), e _ (by omega), e _ (by omega), e _ (by omega), e _ (by omega), e _ (by omega), e _ (by omega), e _ (by omega)]) (by unfold fHour; rw [v0, v1, v2, v3, v4, v5, v6, v7])
  · rw [e 5 (by omega)]; refine kp_l K d8 ⟨h.l8.1, fun i hi => ?_⟩; obtain ⟨p, q1, q2⟩ := h.l8.2 i hi; refine ⟨p, q1, ?_⟩; rw [show fBrk A2 i = fBrk A i by (unfold fBrk; rw [e _ (by omega), e _ (by omega), e _ (by omega), e _ (by omega), e _ (by omega), e _ (by omega)])]; exact q2
  · intro i hi; rw [e 2 (by omega)]; have q := h.own i hi; by_cases g : (i : Int) < A 2; (rw [if_pos g] at q ⊢; rw [e _ (by omega)]; exact q); (rw [if_neg g] at q ⊢; exact q)
  · intro z hz; rw [e _ (by omega), e _ (by omega)]; exact h.sum z hz
  · intro i hi; rw [e 10 (by omega)] at hi; rw [e _ (by omega)]; exact h.tape i hi
  · intro k hk; obtain ⟨p, q1, q2⟩ := h.con k hk; have a := hl k hk; exact ⟨p, q1, kp_c K (rlC_d hk (fun i z1 => e i (by omega)) (by omega) (fun x hx => (a.2 x hx).2) q2)⟩
  · intro k q hk hq; rw [e 6 (by omega)] at hk; rw [e _ (by omega)]; exact h.calls k q hk hq
  · intro k hk; rw [e 7 (by omega)] at hk; rw [e _ (by omega)]; exact h.sorts k hk
  · intro k t hk ht; rw [e 7 (by omega), e _ (by omega)]; exact h.worths k t hk ht
set_option maxHeartbeats 4000000 in
theorem rel_cut (kn : Nat) (st : Int) (dy : Int) (fd : Int) (td : Int) (rk : Int) {e0 N9 n9 : Nat} {f9 : Nat → Option Nat} {m9 : Int} (hl : li A) (hc : cn A) (h : Rel9 ar b w0 A τ) (hk9 : A 5 = (kn : Int)) (hk8 : kn < 24) (hn : b + 47 ≤ n) (hI : lsq9 ar b w0 n e0 (τ 8)) (hfree : ∀ a, n ≤ a → w0 a = none) (hP : adP ar b τ w0 n e0 8 kn (.inr (1, [.int (iz st), .int (iz (48 * dy + fd)), .int (iz (48 * dy + td)), .int (iz rk), .int (iz (A 8))])) e9 N9 f9 w9 n9) (d2 : τ 2 1 ≠ (e9 : Int)) (d3 : τ 3 1 ≠ (e9 : Int)) (d6 : τ 6 1 ≠ (e9 : Int)) (d7 : τ 7 1 ≠ (e9 : Int)) : Rel9 ar b w9 (ua (ua (ua (ua (ua (ua (ua A (480 + 6 * kn) st) (480 + 6 * kn + 1) dy) (480 + 6 * kn + 2) fd) (480 + 6 * kn + 3) td) (480 + 6 * kn + 4) rk) (480 + 6 * kn + 5) (A 8)) 5 (A 5 + 1)) (sA τ 8 (lv9 m9 ((e9 : Nat) : Int) (((kn : Nat) : Int) + 1))) := by
  have K := ad_kp hI hfree hP
  have e : ∀ i, (¬ i = 5 ∧ (i < 480 + 6 * kn ∨ 480 + 6 * kn + 5 < i)) → (ua (ua (ua (ua (ua (ua (ua A (480 + 6 * kn) st) (480 + 6 * kn + 1) dy) (480 + 6 * kn + 2) fd) (480 + 6 * kn + 3) td) (480 + 6 * kn + 4) rk) (480 + 6 * kn + 5) (A 8)) 5 (A 5 + 1)) i = A i := by intro i hi; rw [ua_ne _ _ (by omega), ua_ne _ _ (by omega), ua_ne _ _ (by omega), ua_ne _ _ (by omega), ua_ne _ _ (by omega), ua_ne _ _ (by omega), ua_ne _ _ (by omega)]
  have v0 : (ua (ua (ua (ua (ua (ua (ua A (480 + 6 * kn) st) (480 + 6 * kn + 1) dy) (480 + 6 * kn + 2) fd) (480 + 6 * kn + 3) td) (480 + 6 * kn + 4) rk) (480 + 6 * kn + 5) (A 8)) 5 (A 5 + 1)) (480 + 6 * kn + 0) = st := by rw [ua_ne _ _ (by omega), ua_ne _ _ (by omega), ua_ne _ _ (by omega), ua_ne _ _ (by omega), ua_ne _ _ (by omega), ua_ne _ _ (by omega)]; exact ua_at _ _ _
  have v1 : (ua (ua (ua (ua (ua (ua (ua A (480 + 6 * kn) st) (480 + 6 * kn + 1) dy) (480 + 6 * kn + 2) fd) (480 + 6 * kn + 3) td) (480 + 6 * kn + 4) rk) (480 + 6 * kn + 5) (A 8)) 5 (A 5 + 1)) (480 + 6 * kn + 1) = dy := by rw [ua_ne _ _ (by omega), ua_ne _ _ (by omega), ua_ne _ _ (by omega), ua_ne _ _ (by omega), ua_ne _ _ (by omega), ua_at]
  have v2 : (ua (ua (ua (ua (ua (ua (ua A (480 + 6 * kn) st) (480 + 6 * kn + 1) dy) (480 + 6 * kn + 2) fd) (480 + 6 * kn + 3) td) (480 + 6 * kn + 4) rk) (480 + 6 * kn + 5) (A 8)) 5 (A 5 + 1)) (480 + 6 * kn + 2) = fd := by rw [ua_ne _ _ (by omega), ua_ne _ _ (by omega), ua_ne _ _ (by omega), ua_ne _ _ (by omega), ua_at]
  have v3 : (ua (ua (ua (ua (ua (ua (ua A (480 + 6 * kn) st) (480 + 6 * kn + 1) dy) (480 + 6 * kn + 2) fd) (480 + 6 * kn + 3) td) (480 + 6 * kn + 4) rk) (480 + 6 * kn + 5) (A 8)) 5 (A 5 + 1)) (480 + 6 * kn + 3) = td := by rw [ua_ne _ _ (by omega), ua_ne _ _ (by omega), ua_ne _ _ (by omega), ua_at]
  have v4 : (ua (ua (ua (ua (ua (ua (ua A (480 + 6 * kn) st) (480 + 6 * kn + 1) dy) (480 + 6 * kn + 2) fd) (480 + 6 * kn + 3) td) (480 + 6 * kn + 4) rk) (480 + 6 * kn + 5) (A 8)) 5 (A 5 + 1)) (480 + 6 * kn + 4) = rk := by rw [ua_ne _ _ (by omega), ua_ne _ _ (by omega), ua_at]
  have v5 : (ua (ua (ua (ua (ua (ua (ua A (480 + 6 * kn) st) (480 + 6 * kn + 1) dy) (480 + 6 * kn + 2) fd) (480 + 6 * kn + 3) td) (480 + 6 * kn + 4) rk) (480 + 6 * kn + 5) (A 8)) 5 (A 5 + 1)) (480 + 6 * kn + 5) = (A 8) := by rw [ua_ne _ _ (by omega), ua_at]
  have vc : (ua (ua (ua (ua (ua (ua (ua A (480 + 6 * kn) st) (480 + 6 * kn + 1) dy) (480 + 6 * kn + 2) fd) (480 + 6 * kn + 3) td) (480 + 6 * kn + 4) rk) (480 + 6 * kn + 5) (A 8)) 5 (A 5 + 1)) 5 = A 5 + 1 := ua_at _ _ _
  have z : rlI A (τ 1) (τ 12 0) := h.i
  unfold rlI at z
  show rlF ar b w9 (ua (ua (ua (ua (ua (ua (ua A (480 + 6 * kn) st) (480 + 6 * kn + 1) dy) (480 + 6 * kn + 2) fd) (480 + 6 * kn + 3) td) (480 + 6 * kn + 4) rk) (480 + 6 * kn + 5) (A 8)) 5 (A 5 + 1)) (τ 1) (τ 2) (τ 3) (τ 4) (τ 5) (τ 6) (τ 7) (lv9 m9 ((e9 : Nat) : Int) (((kn : Nat) : Int) + 1)) (τ 9) (τ 10) (τ 11) ((τ 12) 0) (τ 13) (τ 14)
  generalize (ua (ua (ua (ua (ua (ua (ua A (480 + 6 * kn) st) (480 + 6 * kn + 1) dy) (480 + 6 * kn + 2) fd) (480 + 6 * kn + 3) td) (480 + 6 * kn + 4) rk) (480 + 6 * kn + 5) (A 8)) 5 (A 5 + 1)) = A2 at e vc v0 v1 v2 v3 v4 v5 ⊢
  refine ⟨?_, ?_, ?_, ?_, ?_, ?_, ?_, ?_, ?_, ?_, ?_, ?_, ?_⟩
  · unfold rlI; rw [e 0 (by omega), e 8 (by omega), e 9 (by omega), e 13 (by omega), e 10 (by omega), e 11 (by omega), e 12 (by omega), e 6 (by omega), e 7 (by omega)]; exact z
  · rw [e 1 (by omega)]; refine kp_l K d2 ⟨h.l2.1, fun i hi => ?_⟩; obtain ⟨p, q1, q2⟩ := h.l2.2 i hi; refine ⟨p, q1, ?_⟩; rw [show fWire A2 i = fWire A i by (unfold fWire; rw [e _ (by omega), e _ (by omega), e _ (by omega), e _ (by omega)])]; exact q2
  · rw [e 2 (by omega)]; refine kp_l K d3 ⟨h.l3.1, fun i hi => ?_⟩; obtain ⟨p, q1, q2⟩ := h.l3.2 i hi; refine ⟨p, q1, ?_⟩; rw [show fStat A2 i = fStat A i by (unfold fStat; rw [e _ (by omega), e _ (by omega), e _ (by omega)])]; exact q2
  · rw [e 3 (by omega)]; refine kp_l K d6 ⟨h.l6.1, fun i hi => ?_⟩; obtain ⟨p, q1, q2⟩ := h.l6.2 i hi; refine ⟨p, q1, ?_⟩; rw [show fMemb A2 i = fMemb A i by (unfold fMemb; rw [e _ (by omega), e _ (by omega), e _ (by omega), e _ (by omega)])]; exact q2
  · rw [e 4 (by omega)]; refine kp_l K d7 ⟨h.l7.1, fun i hi => ?_⟩; obtain ⟨p, q1, q2⟩ := h.l7.2 i hi; refine ⟨p, q1, ?_⟩; rw [show fHour A2 i = fHour A i by (unfold fHour; rw [e _ (by omega), e _ (by omega), e _ (by omega), e _ (by omega), e _ (by omega), e _ (by omega), e _ (by omega), e _ (by omega)])]; exact q2
  · rw [vc, hk9]; refine ad_l (fs := fBrk A) hn hI hfree hP (by have q := h.l8; rw [hk9] at q; exact q) (fun i hi => by unfold fBrk; rw [e _ (by omega), e _ (by omega), e _ (by omega), e _ (by omega), e _ (by omega), e _ (by omega)]) (by unfold fBrk; rw [v0, v1, v2, v3, v4, v5])
  · intro i hi; rw [e 2 (by omega)]; have q := h.own i hi; by_cases g : (i : Int) < A 2; (rw [if_pos g] at q ⊢; rw [e _ (by omega)]; exact q); (rw [if_neg g] at q ⊢; exact q)
  · intro z hz; rw [e _ (by omega), e _ (by omega)]; exact h.sum z hz
  · intro i hi; rw [e 10 (by omega)] at hi; rw [e _ (by omega)]; exact h.tape i hi
  · intro k hk; obtain ⟨p, q1, q2⟩ := h.con k hk; have a := hl k hk; exact ⟨p, q1, kp_c K (rlC_d hk (fun i z1 => e i (by omega)) (by omega) (fun x hx => (a.2 x hx).2) q2)⟩
  · intro k q hk hq; rw [e 6 (by omega)] at hk; rw [e _ (by omega)]; exact h.calls k q hk hq
  · intro k hk; rw [e 7 (by omega)] at hk; rw [e _ (by omega)]; exact h.sorts k hk
  · intro k t hk ht; rw [e 7 (by omega), e _ (by omega)]; exact h.worths k t hk ht
end RLV
