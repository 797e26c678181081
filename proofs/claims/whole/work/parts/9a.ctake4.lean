/-! a taking over: what it wants, what it gives -/
/-- a holder at base x with contents T: the class's own one (x = b), or an image -/
def blk9 (ar : Nat → ClassId) (b : Nat) (w0 : zcW) (Ow : Nat → Nat) (x : Nat) (T : Nat → Nat → Int) : Prop := x = b ∨ ((∀ j, 1 ≤ j ∧ j ≤ 18 → w0 (x + j) = gcell ar x (T j) j) ∧ (∀ i, 1 ≤ i ∧ i < 23 → 10 ≤ Ow (x + i) % 100) ∧ b + 46 ≤ x)
def byt9 (T : Nat → Nat → Int) : Prop := ∀ i, i < 500 → -128 ≤ T 9 i ∧ T 9 i ≤ 127
theorem byt_f {T : Nat → Nat → Int} (h : byt9 T) : ∀ i, i < 500 → fits .byte (.int (iz (T 9 i))) = true := by
  intro i hi
  have := h i hi
  have e1 : (iz (T 9 i)).toInt = T 9 i := iz_toInt (by omega)
  simp only [fits]
  have e2 : (-128 : Int32).toInt = -128 := by decide
  have e3 : (127 : Int32).toInt = 127 := by decide
  rw [Bool.and_eq_true, decide_eq_true_iff, decide_eq_true_iff, Int32.le_iff_toInt_le, Int32.le_iff_toInt_le, e1, e2, e3]
  exact this
section TKO
variable {ar : Nat → ClassId} {b : Nat} {w0 w w1 w9 : zcW} {n n9 e0 x y : Nat} {A : Nat → Int} {τ T θ : Nat → Nat → Int} {Ow : Nat → Nat}
/-- rows of lists lie in no holder's block -/
theorem bk_e {a off j : Nat} (hb : blk9 ar b w0 Ow x T) (hj : isj9 j) (ho : off % 100 = 0) (hf : nf9 b a) (hO : Ow a = off + j) : a < x + 1 ∨ x + 19 ≤ a := by
  have := isj_lt hj
  rcases hb with rfl | ⟨_, h2, h3⟩
  · unfold nf9 at hf; omega
  · apply Decidable.byContradiction
    intro z
    have q := h2 (a - x) (by omega)
    rw [show x + (a - x) = a by omega] at q
    omega
theorem bk_o {p ci : Nat} {fs : List Value} (hb : blk9 ar b w0 Ow x T) (hc : ci ≠ 0 ∧ ci ≠ 3 ∧ ci ≠ 9) (g : ob9 b w0 p ci fs) : p < x + 1 ∨ x + 19 ≤ p := by
  rcases hb with rfl | ⟨h1, h2, h3⟩
  · have := g.1; unfold nf9 at this; omega
  · apply Decidable.byContradiction
    intro z
    have q := h1 (p - x) (by omega)
    rw [show x + (p - x) = p by omega, g.2] at q
    have := gc_o (by omega) q.symm
    omega
theorem bk_a {p N : Nat} {f : Nat → Int} (hb : blk9 ar b w0 Ow x T) (hN : N = 16 ∨ N = 256) (g1 : nf9 b p) (g2 : w0 p = some (.inl (ar 0, N, .inl (fun q => iz (f q))))) : p < x + 1 ∨ x + 19 ≤ p := by
  rcases hb with rfl | ⟨h1, h2, h3⟩
  · unfold nf9 at g1; omega
  · apply Decidable.byContradiction
    intro z
    have q := h1 (p - x) (by omega)
    rw [show x + (p - x) = p by omega, g2] at q
    have := gc_a (by omega) q.symm
    omega
theorem lt_free {p : Nat} (hfree : ∀ a, n ≤ a → w0 a = none) {X : va_E} (g : w0 p = some X) : p < n := by
  apply Decidable.byContradiction
  intro z
  rw [hfree p (by omega)] at g
  exact absurd g (by simp)
def lsn9 (ar : Nat → ClassId) (b : Nat) (w0 : zcW) (n e0 : Nat) (t : Nat → Int) : Prop := ((t 1).toNat = e0 ∧ (t 2).toNat = 0) ∨ (nf9 b (t 1).toNat ∧ (t 1).toNat < n ∧ (t 1).toNat ≠ e0 ∧ ∃ (N : Nat) (f : Nat → Option Nat), w0 (t 1).toNat = some (.inl (ar 2, N, .inr (.inr (.inr (.inr f))))) ∧ (t 2).toNat ≤ N ∧ 0 < N ∧ N ≤ 60)
/-- a list's row, in numbers -/
theorem ls_n {t : Nat → Int} (hs : lsq9 ar b w0 n e0 t) : t 1 = ((t 1).toNat : Int) ∧ t 2 = ((t 2).toNat : Int) ∧ lsn9 ar b w0 n e0 t := by
  rcases hs with ⟨q1, q2⟩ | ⟨e8, N8, f8, q1, q2, q3, q4, q5, q6, q7, q8, q9, q10⟩
  · exact ⟨by omega, by omega, Or.inl ⟨by omega, by omega⟩⟩
  · have ee : (t 1).toNat = e8 := by omega
    unfold lsn9
    rw [ee]
    exact ⟨by omega, by omega, Or.inr ⟨q2, q3, q4, N8, f8, q5, by omega, q8, q9⟩⟩
/-- the objects in a holder's lists -/
theorem rl_P (h : Rel9 ar b w0 A θ) : ∃ P : Nat → Nat → Nat, ∀ j i : Nat, isj9 j → (i : Int) < nj9 A j → it9q ar b w0 (θ j) i (P j i) ∧ ob9 b w0 (P j i) (ci9 j) (fj9 A j i) := by
  have hex : ∀ j i : Nat, ∃ p : Nat, isj9 j → (i : Int) < nj9 A j → it9q ar b w0 (θ j) i p ∧ ob9 b w0 p (ci9 j) (fj9 A j i) := by
    intro j i
    by_cases c : isj9 j ∧ (i : Int) < nj9 A j
    · obtain ⟨p, q1, q2⟩ := (rl_j h c.1).2 i c.2
      exact ⟨p, fun _ _ => ⟨q1, q2⟩⟩
    · exact ⟨0, fun c1 c2 => absurd ⟨c1, c2⟩ c⟩
  obtain ⟨P, hP⟩ := Classical.axiomOfChoice (fun j => Classical.axiomOfChoice (hex j))
  exact ⟨P, fun j i => hP j i⟩
theorem nj_le (hc : cn A) {j : Nat} (hj : isj9 j) : 0 ≤ nj9 A j ∧ nj9 A j ≤ (mx9 j : Int) := by
  unfold cn at hc
  rcases hj with rfl | rfl | rfl | rfl | rfl <;> (show 0 ≤ _ ∧ _ ≤ _; simp only [nj9, mx9]; simp; omega)
/-- what takeLists wants -/
theorem tk_H {offT offS : Nat} {P : Nat → Nat → Nat} (hc : cn A) (hw : w = cw ar b τ w0) (hfree : ∀ a, n ≤ a → w0 a = none) (hn : b + 47 ≤ n) (he0 : e0 < b) (hbx : b ≤ x) (hX : ∀ j, 1 ≤ j ∧ j ≤ 18 → w (x + j) = gcell ar x (T j) j) (hY : ∀ j, 1 ≤ j ∧ j ≤ 18 → w (y + j) = gcell ar y (θ j) j) (hBx : blk9 ar b w0 Ow x T) (hT : LQ9 ar b w0 n e0 Ow offT T) (hoT : offT % 100 = 0) (hS : LQ9 ar b w0 n e0 Ow offS θ) (hR : Rel9 ar b w0 A θ) (hP : ∀ j i : Nat, isj9 j → (i : Int) < nj9 A j → it9q ar b w0 (θ j) i (P j i) ∧ ob9 b w0 (P j i) (ci9 j) (fj9 A j i)) : tlH ar w n e0 x y (fun j => T j 0) (fun j => θ j 0) (fun j => (T j 1).toNat) (fun j => (T j 2).toNat) (fun j => (θ j 1).toNat) (fun j => (θ j 2).toNat) P (fj9 A) := by
  intro j hj
  dsimp only
  have jr := isj_lt hj
  obtain ⟨a1, a2, a3⟩ := ls_n (hT j hj).1
  obtain ⟨c1, c2, c3⟩ := ls_n (hS j hj).1
  have rj := rl_j hR hj
  have nn := nj_le hc hj
  have gl : ∀ z (t : Nat → Int), gcell ar z t j = some (.inr (0, [.int (iz (t 0)), va_rf (rfv (t 1)), .int (iz (t 2))])) := by
    intro z t
    rcases hj with rfl | rfl | rfl | rfl | rfl <;> rfl
  have rv : ∀ z : Nat, va_rf (rfv (z : Int)) = .ref z := fun z => by rw [rfv_n]; rfl
  refine ⟨?_, ?_, ?_, ?_, ?_, fun i hi => ?_, ?_⟩
  · rw [hX j (by omega), gl, ← rv, ← a1, ← a2]
  · rcases a3 with q | ⟨q1, q2, q3, N, f, q4, q5⟩
    · exact Or.inl q
    · have nb := bk_e hBx hj hoT q1 ((hT j hj).2 _ a1 q3)
      exact Or.inr ⟨q2, by omega, q3, N, f, by rw [hw, cw_nf q1]; exact q4, q5⟩
  · rw [hY j (by omega), gl, ← rv, ← c1, ← c2]
  · have := rj.1; omega
  · rcases c3 with q | ⟨q1, q2, q3, N, f, q4, q5, q6, q7⟩
    · exact Or.inl q.2
    · refine Or.inr ⟨N, f, q2, by rw [hw, cw_nf q1]; exact q4, q5, q7, fun i hi => ?_⟩
      obtain ⟨⟨e, N1, f1, t1, t2, t3, t4, t5, t6, t7⟩, _⟩ := hP j i hj (by have := rj.1; omega)
      have ee : e = (θ j 1).toNat := by omega
      rw [← ee] at q4
      rw [q4] at t3
      have t38 : f = f1 := by
        simp only [Option.some.injEq, Sum.inl.injEq, Sum.inr.injEq, Prod.mk.injEq] at t3
        exact t3.2.2
      rw [t38]; exact t6
  · obtain ⟨_, g2⟩ := hP j i hj (by have := rj.1; omega)
    exact ⟨lt_free hfree g2.2, by rw [hw]; exact cw_ob g2⟩
  · rcases c3 with q | q
    · exact Or.inl q.2
    · exact Or.inr q.2.2.1
theorem tk_N {offT offS : Nat} {P : Nat → Nat → Nat} (hlow : ∀ (a : Nat) (X : va_E), w0 a = some X → b ≤ a) (he0 : e0 < b) (hbx : b ≤ x ∧ b ≤ y) (hBx : blk9 ar b w0 Ow x T) (hBy : blk9 ar b w0 Ow y θ) (hT : LQ9 ar b w0 n e0 Ow offT T) (hoT : offT % 100 = 0) (hS : LQ9 ar b w0 n e0 Ow offS θ) (hoS : offS % 100 = 0) (hne : offS ≠ offT) (hR : Rel9 ar b w0 A θ) (hP : ∀ j i : Nat, isj9 j → (i : Int) < nj9 A j → it9q ar b w0 (θ j) i (P j i) ∧ ob9 b w0 (P j i) (ci9 j) (fj9 A j i)) : tlN e0 x y (fun j => (T j 1).toNat) (fun j => (θ j 1).toNat) (fun j => (θ j 2).toNat) P := by
  intro j hj
  dsimp only
  have jr := isj_lt hj
  obtain ⟨a1, a2, a3⟩ := ls_n (hT j hj).1
  obtain ⟨c1, c2, c3⟩ := ls_n (hS j hj).1
  refine ⟨?_, ?_, ?_, fun j2 hj2 => ?_⟩
  · rcases a3 with q | ⟨q1, q2, q3, _⟩
    · exact Or.inl (by omega)
    · exact bk_e hBx hj hoT q1 ((hT j hj).2 _ a1 q3)
  · rcases a3 with q | ⟨q1, q2, q3, _⟩
    · exact Or.inl (by omega)
    · exact bk_e hBy hj hoT q1 ((hT j hj).2 _ a1 q3)
  · rcases c3 with q | ⟨q1, q2, q3, _⟩
    · exact Or.inl (by omega)
    · exact bk_e hBx hj hoS q1 ((hS j hj).2 _ c1 q3)
  have jr2 := isj_lt hj2
  obtain ⟨d1, d2, d3⟩ := ls_n (hS j2 hj2).1
  obtain ⟨f1, f2, f3⟩ := ls_n (hT j2 hj2).1
  refine ⟨fun ne z => ?_, fun nj ne z => ?_, fun i hi => ⟨fun z => ?_, ?_⟩⟩
  · have o1 := (hS j2 hj2).2 _ d1 ne
    rw [show (θ j2 1).toNat = (T j 1).toNat from z] at o1
    have o2 := (hT j hj).2 _ a1 (fun q => ne (z.trans q))
    omega
  · have o1 := (hT j hj).2 _ a1 ne
    have o2 := (hT j2 hj2).2 _ f1 (fun q => ne ((show (T j2 1).toNat = (T j 1).toNat from z).symm.trans q))
    rw [show (T j2 1).toNat = (T j 1).toNat from z] at o2
    omega
  · obtain ⟨_, g2⟩ := hP j2 i hj2 (by have := (rl_j hR hj2).1; omega)
    have lo := hlow _ _ g2.2
    rcases a3 with q | ⟨q1, q2, q3, N, f, q4, _⟩
    · omega
    · have g3 := g2.2
      rw [show P j2 i = (T j 1).toNat from z, q4] at g3
      exact absurd g3 (by simp)
  · obtain ⟨_, g2⟩ := hP j2 i hj2 (by have := (rl_j hR hj2).1; omega)
    exact bk_o hBx (ci_ok hj2) g2
/-- what the others keep -/
theorem tk_kg {offT : Nat} {sz : Nat → Nat} {P : Nat → Nat → Nat} {E : Nat → Nat} (hw : w = cw ar b τ w0) (hfree : ∀ a, n ≤ a → w0 a = none) (hlow : ∀ (a : Nat) (X : va_E), w0 a = some X → b ≤ a) (he0 : e0 < b) (hBx : blk9 ar b w0 Ow x T) (hT : LQ9 ar b w0 n e0 Ow offT T) (h1 : tlS ar w n e0 x (fun j => (T j 1).toNat) sz P [8, 7, 6, 3, 2] w1 n9 E) (h2 : tka9 ar x T θ w1 w9) : kg9 ar b w0 w9 ∧ ∀ (off : Nat) (U : Nat → Nat → Int), off % 100 = 0 → offT % 100 = 0 → off ≠ offT → LQ9 ar b w0 n e0 Ow off U → ∀ j, isj9 j → ak9 e0 w0 w9 (U j) := by
  have i9 : ∀ j ∈ [8, 7, 6, 3, 2], isj9 j := by unfold isj9; decide
  have fr : ∀ a, a < n → nf9 b a → (a < x + 1 ∨ x + 19 ≤ a) → (∀ j, isj9 j → a ≠ (T j 1).toNat) → w9 a = w0 a := by
    intro a ha hf hb he
    rw [h2.1 a (by omega), h1.1 a ha (fun j hj => ⟨by have := isj_lt (i9 j hj); omega, he j (i9 j hj)⟩), hw, cw_nf hf]
  refine ⟨⟨fun p ci fs hf hp c0 c3 c9 => fr p (lt_free hfree hp) hf (bk_o hBx ⟨c0, c3, c9⟩ ⟨hf, hp⟩) (fun j hj z => ?_), fun p N f hf hp hN => fr p (lt_free hfree hp) hf (bk_a hBx hN hf hp) (fun j hj z => ?_)⟩, fun off U ho1 ho2 hne hU j hj e t1 ne => ?_⟩
  · obtain ⟨a1, a2, a3⟩ := ls_n (hT j hj).1
    have lo := hlow _ _ hp
    rcases a3 with q | ⟨q1, q2, q3, N, f, q4, _⟩
    · omega
    · rw [z, q4] at hp
      exact absurd hp (by simp)
  · obtain ⟨a1, a2, a3⟩ := ls_n (hT j hj).1
    have lo := hlow _ _ hp
    rcases a3 with q | ⟨q1, q2, q3, N, f, q4, _⟩
    · omega
    · rw [z, q4] at hp
      exact absurd hp (by simp)
  · obtain ⟨a1, a2, a3⟩ := ls_n (hU j hj).1
    have jr := isj_lt hj
    have ee : e = (U j 1).toNat := by omega
    have o1 := (hU j hj).2 e t1 ne
    rcases a3 with q | ⟨q1, q2, q3, _⟩
    · omega
    · rw [← ee] at q1 q2
      refine fr e q2 q1 (bk_e hBx hj ho1 q1 o1) (fun j2 hj2 z => ?_)
      have jr2 := isj_lt hj2
      obtain ⟨f1, f2, f3⟩ := ls_n (hT j2 hj2).1
      have o2 := (hT j2 hj2).2 _ f1 (fun q => ne (z.trans q))
      rw [← z] at o2
      omega
/-- who has which row afterwards -/
def owt9 (Ow : Nat → Nat) (n offT : Nat) (E : Nat → Nat) : Nat → Nat := fun a => if a < n then Ow a else if a = E 2 then offT + 2 else if a = E 3 then offT + 3 else if a = E 6 then offT + 6 else if a = E 7 then offT + 7 else offT + 8
/-- the taker afterwards -/
theorem tk_out {offT : Nat} {P : Nat → Nat → Nat} {E : Nat → Nat} (hc : cn A) (hw : w = cw ar b τ w0) (hfree : ∀ a, n ≤ a → w0 a = none) (hn : b + 47 ≤ n ∧ x + 19 ≤ n) (he0 : e0 < b) (hBx : blk9 ar b w0 Ow x T) (hT : LQ9 ar b w0 n e0 Ow offT T) (hoT : offT % 100 = 0) (hR : Rel9 ar b w0 A θ) (hP : ∀ j i : Nat, isj9 j → (i : Int) < nj9 A j → it9q ar b w0 (θ j) i (P j i) ∧ ob9 b w0 (P j i) (ci9 j) (fj9 A j i)) (hk : kg9 ar b w0 w9) (h1 : tlS ar w n e0 x (fun j => (T j 1).toNat) (fun j => (θ j 2).toNat) P [8, 7, 6, 3, 2] w1 n9 E) (h2 : tka9 ar x T θ w1 w9) : ∃ T9 : Nat → Nat → Int, (∀ j, 1 ≤ j ∧ j ≤ 18 → (∀ i, 15 ≤ i ∧ i ≤ 18 → w1 (x + i) = gcell ar x (T i) i) → w9 (x + j) = gcell ar x (T9 j) j) ∧ Rel9 ar b w9 A T9 ∧ LQ9 ar b w9 n9 e0 (owt9 Ow n offT E) offT T9 ∧ (byt9 θ → byt9 T9) ∧ T9 1 = θ 1 ∧ (∀ i, i < 6 → T9 13 i = θ 13 i) ∧ ∀ j, 15 ≤ j → T9 j = T j := by
  obtain ⟨s1, s2, s3, s4, s5, s6⟩ := h1
  obtain ⟨k1, k2, c1, c4, c5, c9, c10, c11, c12, c13, c14⟩ := h2
  have i8 : ∀ j, isj9 j → j ∈ [8, 7, 6, 3, 2] := by
    intro j hj
    rcases hj with rfl | rfl | rfl | rfl | rfl <;> decide
  have hex : ∀ j : Nat, ∃ m9 : Int, isj9 j → w1 (x + j) = some (.inr (0, [.int (iz m9), .ref (E j), .int (iz (((θ j 2).toNat : Nat) : Int))])) := by
    intro j
    by_cases c : isj9 j
    · obtain ⟨m9, g9, q1, _⟩ := s5 j (i8 j c)
      exact ⟨m9, fun _ => q1⟩
    · exact ⟨0, fun z => absurd z c⟩
  obtain ⟨M, hM⟩ := Classical.axiomOfChoice hex
  have hL : ∀ j, isj9 j → rlL ar b w9 (lv9 (M j) ((E j : Nat) : Int) (((θ j 2).toNat : Nat) : Int)) (nj9 A j) (ci9 j) (fj9 A j) ∧ lsq9 ar b w9 n9 e0 (lv9 (M j) ((E j : Nat) : Int) (((θ j 2).toNat : Nat) : Int)) ∧ (E j ≠ e0 → owt9 Ow n offT E (E j) = offT + j) := by
    intro j hj
    have jr := isj_lt hj
    have nn := nj_le hc hj
    have rj := rl_j hR hj
    have szj : nj9 A j = (((θ j 2).toNat : Nat) : Int) := by have := rj.1; omega
    obtain ⟨m8, g8, q1, q2, q3, q4⟩ := s5 j (i8 j hj)
    dsimp only at q1 q2 q3 q4
    obtain ⟨a1, a2, a3⟩ := ls_n (hT j hj).1
    obtain ⟨xr, x1, x2⟩ := ci_xr hj
    have nfE : E j ≠ e0 → nf9 b (E j) ∧ (E j < x + 1 ∨ x + 19 ≤ E j) ∧ (E j < n → Ow (E j) = offT + j) := by
      intro ne
      rcases q4 with z | z
      · rcases a3 with y1 | ⟨y1, y2, y3, _⟩
        · omega
        · rw [z]
          exact ⟨y1, bk_e hBx hj hoT y1 ((hT j hj).2 _ a1 y3), fun _ => (hT j hj).2 _ a1 y3⟩
      · exact ⟨Or.inr (Or.inr (by omega)), Or.inr (by omega), fun y1 => by omega⟩
    refine ⟨⟨szj.symm, fun i hi => ?_⟩, ?_, fun ne => ?_⟩
    · obtain ⟨_, g2⟩ := hP j i hj hi
      refine ⟨P j i, ?_, kg_ob hk (ci_ok hj) g2⟩
      rcases q2 with ⟨_, y2⟩ | ⟨y1, y2, y3, N, y4, y5, y6, y7, y8⟩
      · omega
      · have nf := nfE y3
        exact ⟨E j, N, g8, rfl, nf.1, (k1 (E j) (by omega)).trans y4, by omega, by omega, q3 i (by omega), by show (i : Int) < (((θ j 2).toNat : Nat) : Int); omega, by show (((θ j 2).toNat : Nat) : Int) ≤ 1000; omega⟩
    · rcases q2 with ⟨y1, y2⟩ | ⟨y1, y2, y3, N, y4, y5, y6, y7, y8⟩
      · exact Or.inl ⟨by show ((E j : Nat) : Int) = _; rw [y1], by show (((θ j 2).toNat : Nat) : Int) = 0; rw [y2]; rfl⟩
      · have nf := nfE y3
        refine Or.inr ⟨E j, N, g8, rfl, nf.1, y1, y3, (k1 (E j) (by omega)).trans y4, by show (0 : Int) ≤ (((θ j 2).toNat : Nat) : Int); omega, by show (((θ j 2).toNat : Nat) : Int) ≤ N; omega, y6, y7, fun i hi y hy => ?_⟩
        have hi2 : i < (θ j 2).toNat := by have : (i : Int) < (((θ j 2).toNat : Nat) : Int) := hi; omega
        rw [q3 i hi2] at hy
        have ey : P j i = y := Option.some.inj hy
        subst ey
        obtain ⟨_, g2⟩ := hP j i hj (by omega)
        have g3 := kg_ob hk (ci_ok hj) g2
        exact ⟨⟨ci9 j, xr, _, g3.2, x1, x2⟩, g3.1⟩
    · unfold owt9
      by_cases lt : E j < n
      · rw [if_pos lt]; exact (nfE ne).2.2 lt
      · rw [if_neg lt]
        have dd : ∀ j2, isj9 j2 → j ≠ j2 → E j ≠ E j2 := fun j2 hj2 hne => s6 j (i8 j hj) j2 (i8 j2 hj2) hne (by omega)
        have m2 : isj9 2 := by unfold isj9; decide
        have m3 : isj9 3 := by unfold isj9; decide
        have m6 : isj9 6 := by unfold isj9; decide
        have m7 : isj9 7 := by unfold isj9; decide
        rcases hj with rfl | rfl | rfl | rfl | rfl
        · rw [if_pos rfl]
        · rw [if_neg (dd 2 m2 (by decide)), if_pos rfl]
        · rw [if_neg (dd 2 m2 (by decide)), if_neg (dd 3 m3 (by decide)), if_pos rfl]
        · rw [if_neg (dd 2 m2 (by decide)), if_neg (dd 3 m3 (by decide)), if_neg (dd 6 m6 (by decide)), if_pos rfl]
        · rw [if_neg (dd 2 m2 (by decide)), if_neg (dd 3 m3 (by decide)), if_neg (dd 6 m6 (by decide)), if_neg (dd 7 m7 (by decide))]
  let L9 : Nat → Nat → Int := fun j => lv9 (M j) ((E j : Nat) : Int) (((θ j 2).toNat : Nat) : Int)
  let T9 : Nat → Nat → Int := fun j => if j = 1 then θ 1 else if j = 2 then L9 2 else if j = 3 then L9 3 else if j = 4 then cpy9 (θ 4) (T 4) 8 else if j = 5 then cpy9 (θ 5) (T 5) 8 else if j = 6 then L9 6 else if j = 7 then L9 7 else if j = 8 then L9 8 else if j = 9 then cpy9 (θ 9) (T 9) 500 else if j = 10 then cpy9 (θ 10) (T 10) 3 else if j = 11 then cpy9 (θ 11) (T 11) 120 else if j = 12 then ua (T 12) 0 (θ 12 0) else if j = 13 then cpy9 (θ 13) (T 13) 6 else if j = 14 then cpy9 (θ 14) (T 14) 36 else T j
  have cp : ∀ (f g : Nat → Int) (N i : Nat), i < N → cpy9 f g N i = f i := fun f g N i h => if_pos h
  have hLc : ∀ j, isj9 j → w9 (x + j) = some (.inr (0, [.int (iz (L9 j 0)), va_rf (rfv (L9 j 1)), .int (iz (L9 j 2))])) := by
    intro j hj
    rw [k2 j (by unfold isj9 at hj; omega), hM j hj]
    show _ = some (Sum.inr (0, [.int (iz (M j)), va_rf (rfv ((E j : Nat) : Int)), .int (iz (((θ j 2).toNat : Nat) : Int))]))
    rw [rfv_n]; rfl
  refine ⟨T9, fun j hj h15 => ?_, ?_, fun j hj => ?_, fun hb i hi => ?_, rfl, fun i hi => ?_, fun j hj => ?_⟩
  · rcases (by omega : j = 1 ∨ j = 2 ∨ j = 3 ∨ j = 4 ∨ j = 5 ∨ j = 6 ∨ j = 7 ∨ j = 8 ∨ j = 9 ∨ j = 10 ∨ j = 11 ∨ j = 12 ∨ j = 13 ∨ j = 14 ∨ j = 15 ∨ j = 16 ∨ j = 17 ∨ j = 18) with rfl | rfl | rfl | rfl | rfl | rfl | rfl | rfl | rfl | rfl | rfl | rfl | rfl | rfl | rfl | rfl | rfl | rfl
    · exact c1
    · exact hLc 2 (by unfold isj9; decide)
    · exact hLc 3 (by unfold isj9; decide)
    · exact c4
    · exact c5
    · exact hLc 6 (by unfold isj9; decide)
    · exact hLc 7 (by unfold isj9; decide)
    · exact hLc 8 (by unfold isj9; decide)
    · exact c9
    · exact c10
    · exact c11
    · exact c12
    · exact c13
    · exact c14
    · exact (k2 15 (by decide)).trans (h15 15 (by decide))
    · exact (k2 16 (by decide)).trans (h15 16 (by decide))
    · exact (k2 17 (by decide)).trans (h15 17 (by decide))
    · exact (k2 18 (by decide)).trans (h15 18 (by decide))
  · unfold cn at hc
    refine ⟨hR.i, (hL 2 (by unfold isj9; decide)).1, (hL 3 (by unfold isj9; decide)).1, (hL 6 (by unfold isj9; decide)).1, (hL 7 (by unfold isj9; decide)).1, (hL 8 (by unfold isj9; decide)).1, fun i hi => ?_, fun z hz => ?_, fun i hi => ?_, fun k hk3 => ?_, fun k q hk3 hq => ?_, fun k hk3 => ?_, fun k t hk3 ht => ?_⟩
    · exact (cp _ _ 8 i hi).trans (hR.own i hi)
    · show (inI (cpy9 (θ 5) (T 5) 8 (2 * z)) ∧ inI (cpy9 (θ 5) (T 5) 8 (2 * z + 1))) ∧ ∀ d : Int, (cpy9 (θ 5) (T 5) 8 (2 * z) ≤ d ∧ d ≤ cpy9 (θ 5) (T 5) 8 (2 * z + 1)) ↔ _
      rw [cp _ _ 8 _ (by omega), cp _ _ 8 _ (by omega)]; exact hR.sum z hz
    · exact (cp _ _ 500 i (by omega)).trans (hR.tape i hi)
    · obtain ⟨p, q1, q2⟩ := hR.con k hk3
      exact ⟨p, (cp _ _ 3 k hk3).trans q1, kg_c hk q2⟩
    · exact (cp _ _ 120 _ (by omega)).trans (hR.calls k q hk3 hq)
    · exact (cp _ _ 6 _ (by omega)).trans (hR.sorts k hk3)
    · exact (cp _ _ 36 _ (by omega)).trans (hR.worths k t hk3 ht)
  · have lj := hL j hj
    have e9 : T9 j = L9 j := by
      rcases hj with rfl | rfl | rfl | rfl | rfl <;> rfl
    rw [e9]
    refine ⟨lj.2.1, fun e t1 ne => ?_⟩
    have ee : e = E j := by have q : ((E j : Nat) : Int) = (e : Int) := t1; omega
    subst ee
    exact lj.2.2 ne
  · show -128 ≤ cpy9 (θ 9) (T 9) 500 i ∧ cpy9 (θ 9) (T 9) 500 i ≤ 127
    rw [cp _ _ 500 i hi]; exact hb i hi
  · exact cp _ _ 6 i hi
  · show (if j = 1 then θ 1 else _) = T j
    repeat rw [if_neg (by omega)]
end TKO
