/-! taking over another holder's lists and rows: what is kept, what comes -/
theorem gc_o {ar : Nat → ClassId} {x ci j : Nat} {t : Nat → Int} {fs : List Value} (h1 : 1 ≤ j ∧ j ≤ 18) (h : gcell ar x t j = some (.inr (ci, fs))) : ci = 0 ∨ ci = 3 ∨ ci = 9 := by
  rcases (by omega : j = 1 ∨ j = 2 ∨ j = 3 ∨ j = 4 ∨ j = 5 ∨ j = 6 ∨ j = 7 ∨ j = 8 ∨ j = 9 ∨ j = 10 ∨ j = 11 ∨ j = 12 ∨ j = 13 ∨ j = 14 ∨ j = 15 ∨ j = 16 ∨ j = 17 ∨ j = 18) with rfl | rfl | rfl | rfl | rfl | rfl | rfl | rfl | rfl | rfl | rfl | rfl | rfl | rfl | rfl | rfl | rfl | rfl
  all_goals first
    | (exfalso; simp [gcell] at h; done)
    | (simp only [gcell, Option.some.injEq, Sum.inr.injEq, Prod.mk.injEq] at h; omega)
theorem gc_a {ar : Nat → ClassId} {x N j : Nat} {t : Nat → Int} {cA : ClassId} {f : Nat → Int32} (h1 : 1 ≤ j ∧ j ≤ 18) (h : gcell ar x t j = some (.inl (cA, N, .inl f))) : N ≠ 16 ∧ N ≠ 256 := by
  rcases (by omega : j = 1 ∨ j = 2 ∨ j = 3 ∨ j = 4 ∨ j = 5 ∨ j = 6 ∨ j = 7 ∨ j = 8 ∨ j = 9 ∨ j = 10 ∨ j = 11 ∨ j = 12 ∨ j = 13 ∨ j = 14 ∨ j = 15 ∨ j = 16 ∨ j = 17 ∨ j = 18) with rfl | rfl | rfl | rfl | rfl | rfl | rfl | rfl | rfl | rfl | rfl | rfl | rfl | rfl | rfl | rfl | rfl | rfl
  all_goals first
    | (exfalso; simp [gcell] at h; done)
    | (simp only [gcell, Option.some.injEq, Sum.inl.injEq, Prod.mk.injEq] at h; omega)
/-- objects in lists, contracts and their rows are kept -/
def kg9 (ar : Nat → ClassId) (b : Nat) (w0 w9 : zcW) : Prop := (∀ (p ci : Nat) (fs : List Value), nf9 b p → w0 p = some (.inr (ci, fs)) → ci ≠ 0 → ci ≠ 3 → ci ≠ 9 → w9 p = w0 p) ∧ ∀ (p N : Nat) (f : Nat → Int), nf9 b p → w0 p = some (.inl (ar 0, N, .inl (fun q => iz (f q)))) → (N = 16 ∨ N = 256) → w9 p = w0 p
/-- a list's row is kept -/
def ak9 (e0 : Nat) (w0 w9 : zcW) (t : Nat → Int) : Prop := ∀ e : Nat, t 1 = (e : Int) → e ≠ e0 → w9 e = w0 e
section KG
variable {ar : Nat → ClassId} {b : Nat} {w0 w9 : zcW} {n n9 e0 : Nat} {A : Nat → Int} {τ T : Nat → Nat → Int} {Ow : Nat → Nat}
theorem kg_ob (h : kg9 ar b w0 w9) {p ci : Nat} {fs : List Value} (hc : ci ≠ 0 ∧ ci ≠ 3 ∧ ci ≠ 9) (g : ob9 b w0 p ci fs) : ob9 b w9 p ci fs := ⟨g.1, (h.1 p ci fs g.1 g.2 hc.1 hc.2.1 hc.2.2).trans g.2⟩
theorem kg_ia (h : kg9 ar b w0 w9) {p N : Nat} {f : Nat → Int} (hN : N = 16 ∨ N = 256) (g : ia9 ar b w0 p N f) : ia9 ar b w9 p N f := ⟨g.1, (h.2 p N f g.1 g.2 hN).trans g.2⟩
theorem kg_c (h : kg9 ar b w0 w9) {k p : Nat} (g : rlC ar b w0 A k p) : rlC ar b w9 A k p := by
  obtain ⟨pd, pc, pt, fd, fc, ft, g1, g2, g3, g4, g5⟩ := g
  exact ⟨pd, pc, pt, fd, fc, ft, kg_ob h (by decide) g1, kg_ia h (Or.inl rfl) g2, kg_ia h (Or.inl rfl) g3, kg_ia h (Or.inr rfl) g4, g5⟩
theorem kg_l (h : kg9 ar b w0 w9) {t : Nat → Int} {N : Int} {ci : Nat} {fs : Nat → List Value} (hc : ci ≠ 0 ∧ ci ≠ 3 ∧ ci ≠ 9) (hs : lsq9 ar b w0 n e0 t) (ha : ak9 e0 w0 w9 t) (g : rlL ar b w0 t N ci fs) : rlL ar b w9 t N ci fs := by
  refine ⟨g.1, fun i hi => ?_⟩
  obtain ⟨p, g1, g2⟩ := g.2 i hi
  refine ⟨p, ?_, kg_ob h hc g2⟩
  obtain ⟨e, N1, f, t1, t2, t3, t4⟩ := g1
  have ne : e ≠ e0 := by
    rcases hs with ⟨q1, q2⟩ | ⟨e8, N8, f8, q1, q2, q3, q4, _⟩
    · have := g.1; omega
    · omega
  exact ⟨e, N1, f, t1, t2, (ha e t1 ne).trans t3, t4⟩
theorem kg_s (h : kg9 ar b w0 w9) (hn : n ≤ n9) {t : Nat → Int} {N : Int} {ci : Nat} {fs : Nat → List Value} {xr : vw_C} (hc : ci ≠ 0 ∧ ci ≠ 3 ∧ ci ≠ 9) (hxc : vwCl[ci]? = some xr) (hxk : (xr.1, "java/lang/Object") ∈ nwC) (hs : lsq9 ar b w0 n e0 t) (ha : ak9 e0 w0 w9 t) (g : rlL ar b w0 t N ci fs) : lsq9 ar b w9 n9 e0 t := by
  rcases hs with q | ⟨e8, N8, f8, q1, q2, q3, q4, q5, q6, q7, q8, q9, q10⟩
  · exact Or.inl q
  · refine Or.inr ⟨e8, N8, f8, q1, q2, by omega, q4, (ha e8 q1 q4).trans q5, q6, q7, q8, q9, fun i hi y hy => ?_⟩
    obtain ⟨p, ⟨e, N1, f, t1, t2, t3, t4, t5, t6, t7⟩, g2⟩ := g.2 i (by have := g.1; omega)
    have ee : e = e8 := by omega
    subst ee
    rw [q5] at t3
    have t38 : f8 = f := by
      simp only [Option.some.injEq, Sum.inl.injEq, Sum.inr.injEq, Prod.mk.injEq] at t3
      exact t3.2.2
    rw [t38, t6] at hy
    have : p = y := Option.some.inj hy
    subst this
    have g3 := kg_ob h hc g2
    exact ⟨⟨ci, xr, fs i, g3.2, hxc, hxk⟩, g3.1⟩
def nj9 (A : Nat → Int) (j : Nat) : Int := if j = 2 then A 1 else if j = 3 then A 2 else if j = 6 then A 3 else if j = 7 then A 4 else A 5
def fj9 (A : Nat → Int) (j : Nat) : Nat → List Value := if j = 2 then fWire A else if j = 3 then fStat A else if j = 6 then fMemb A else if j = 7 then fHour A else fBrk A
theorem rl_j (h : Rel9 ar b w0 A T) {j : Nat} (hj : isj9 j) : rlL ar b w0 (T j) (nj9 A j) (ci9 j) (fj9 A j) := by
  rcases hj with rfl | rfl | rfl | rfl | rfl
  · exact h.l2
  · exact h.l3
  · exact h.l6
  · exact h.l7
  · exact h.l8
theorem ci_ok {j : Nat} (hj : isj9 j) : ci9 j ≠ 0 ∧ ci9 j ≠ 3 ∧ ci9 j ≠ 9 := by
  rcases hj with rfl | rfl | rfl | rfl | rfl <;> decide
theorem ci_xr {j : Nat} (hj : isj9 j) : ∃ xr : vw_C, vwCl[ci9 j]? = some xr ∧ (xr.1, "java/lang/Object") ∈ nwC := by
  rcases hj with rfl | rfl | rfl | rfl | rfl
  · exact ⟨_, rfl, by decide +kernel⟩
  · exact ⟨_, rfl, by decide +kernel⟩
  · exact ⟨_, rfl, by decide +kernel⟩
  · exact ⟨_, rfl, by decide +kernel⟩
  · exact ⟨_, rfl, by decide +kernel⟩
/-- a holder that is not touched -/
theorem kg_rel (h : kg9 ar b w0 w9) {off : Nat} (hL : LQ9 ar b w0 n e0 Ow off T) (ha : ∀ j, isj9 j → ak9 e0 w0 w9 (T j)) (g : Rel9 ar b w0 A T) : Rel9 ar b w9 A T := by
  have z : ∀ j, isj9 j → rlL ar b w9 (T j) (nj9 A j) (ci9 j) (fj9 A j) := fun j hj => kg_l h (ci_ok hj) (hL j hj).1 (ha j hj) (rl_j g hj)
  exact ⟨g.i, z 2 (by unfold isj9; decide), z 3 (by unfold isj9; decide), z 6 (by unfold isj9; decide), z 7 (by unfold isj9; decide), z 8 (by unfold isj9; decide), g.own, g.sum, g.tape, fun k hk => let ⟨p, q1, q2⟩ := g.con k hk; ⟨p, q1, kg_c h q2⟩, g.calls, g.sorts, g.worths⟩
theorem kg_lq (h : kg9 ar b w0 w9) (hn : n ≤ n9) {off : Nat} {Ow9 : Nat → Nat} (hOw : ∀ a, a < n → Ow9 a = Ow a) (hL : LQ9 ar b w0 n e0 Ow off T) (ha : ∀ j, isj9 j → ak9 e0 w0 w9 (T j)) (g : Rel9 ar b w0 A T) : LQ9 ar b w9 n9 e0 Ow9 off T := by
  intro j hj
  obtain ⟨xr, x1, x2⟩ := ci_xr hj
  refine ⟨kg_s h hn (ci_ok hj) x1 x2 (hL j hj).1 (ha j hj) (rl_j g hj), fun e t1 ne => ?_⟩
  have lt : e < n := by
    rcases (hL j hj).1 with ⟨q1, _⟩ | ⟨e8, N8, f8, q1, q2, q3, _⟩ <;> omega
  rw [hOw e lt]
  exact (hL j hj).2 e t1 ne
end KG
/-- the rows of the state that a holder shows end at 2260 -/
theorem rel_cg {ar : Nat → ClassId} {b : Nat} {w0 : zcW} {A A2 : Nat → Int} {T : Nat → Nat → Int} (hc : cn A) (hl : li A) (e : ∀ i, i < 2260 → A2 i = A i) (h : Rel9 ar b w0 A T) : Rel9 ar b w0 A2 T := by
  have c := hc
  unfold cn at c
  have LL : ∀ {t : Nat → Int} {N : Int} {ci : Nat} {f f2 : Nat → List Value}, rlL ar b w0 t N ci f → (∀ i : Nat, (i : Int) < N → f2 i = f i) → rlL ar b w0 t N ci f2 := fun g hf => ⟨g.1, fun i hi => let ⟨p, q1, q2⟩ := g.2 i hi; ⟨p, q1, by rw [hf i hi]; exact q2⟩⟩
  have zi := h.i
  unfold rlI at zi
  refine ⟨?_, ?_, ?_, ?_, ?_, ?_, fun i hi => ?_, fun z hz => ?_, fun i hi => ?_, fun k hk => ?_, fun k q hk hq => ?_, fun k hk => ?_, fun k t hk ht => ?_⟩
  · unfold rlI
    rw [e 0 (by omega), e 8 (by omega), e 9 (by omega), e 13 (by omega), e 10 (by omega), e 11 (by omega), e 12 (by omega), e 6 (by omega), e 7 (by omega)]
    exact zi
  · rw [e 1 (by omega)]
    exact LL h.l2 (fun i hi => by unfold fWire; rw [e _ (by omega), e _ (by omega), e _ (by omega), e _ (by omega)])
  · rw [e 2 (by omega)]
    exact LL h.l3 (fun i hi => by unfold fStat; rw [e _ (by omega), e _ (by omega), e _ (by omega)])
  · rw [e 3 (by omega)]
    exact LL h.l6 (fun i hi => by unfold fMemb; rw [e _ (by omega), e _ (by omega), e _ (by omega), e _ (by omega)])
  · rw [e 4 (by omega)]
    exact LL h.l7 (fun i hi => by unfold fHour; rw [e _ (by omega), e _ (by omega), e _ (by omega), e _ (by omega), e _ (by omega), e _ (by omega), e _ (by omega), e _ (by omega)])
  · rw [e 5 (by omega)]
    exact LL h.l8 (fun i hi => by unfold fBrk; rw [e _ (by omega), e _ (by omega), e _ (by omega), e _ (by omega), e _ (by omega), e _ (by omega)])
  · rw [e 2 (by omega), e _ (by omega)]; exact h.own i hi
  · rw [e _ (by omega), e _ (by omega)]; exact h.sum z hz
  · rw [e 10 (by omega)] at hi
    rw [e _ (by omega)]; exact h.tape i hi
  · obtain ⟨p, q1, pd, pc, pt, fd, fc, ft, g1, g2, g3, g4, g5⟩ := h.con k hk
    refine ⟨p, q1, pd, pc, pt, fd, fc, ft, by rw [e _ (by omega)]; exact g1, g2, g3, g4, fun x hx => ?_⟩
    rw [e _ (by omega)] at hx
    have lk := hl k hk
    have x16 : x < 16 := by omega
    obtain ⟨y1, y2, y3⟩ := g5 x hx
    unfold deed at y1 ⊢
    rw [e _ (by omega), e _ (by omega), e _ (by omega)]
    refine ⟨y1, y2, fun t ht => ?_⟩
    have t4 : t < 4 := by have := lk.2 x hx; omega
    rw [e _ (by omega), e _ (by omega), e _ (by omega), e _ (by omega)]
    exact y3 t ht
  · rw [e 6 (by omega)] at hk
    rw [e _ (by omega)]; exact h.calls k q hk hq
  · rw [e 7 (by omega)] at hk
    rw [e _ (by omega)]; exact h.sorts k hk
  · rw [e 7 (by omega), e _ (by omega)]; exact h.worths k t hk ht
