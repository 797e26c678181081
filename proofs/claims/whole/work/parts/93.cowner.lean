/-! the class's lists: whose array is whose -/
theorem ms_worth {σ : Nat → Nat → Int} (pc9 tn wo : Int) (r_w : inI wo) (h : Ms9 σ) (ok : (0 ≤ pc9 ∧ pc9 ≤ σ 1 7 - 1) ∧ (0 ≤ tn ∧ tn ≤ 5) ∧ (0 ≤ wo ∧ wo ≤ 9999)) : Ms9 (sA σ 1 (ua (σ 1) (750 + 7 * pc9.toNat + 1 + tn.toNat) wo)) := by
  have hc := h.2.1.1
  exact ms_set h (iv_worth wo pc9.toNat tn.toNat h.2.1 (by omega)) (fun i hi => ua_ne _ _ (by omega)) (in_ua (h.1 1) (by omega))
def isj9 (j : Nat) : Prop := j = 2 ∨ j = 3 ∨ j = 6 ∨ j = 7 ∨ j = 8
def LQ9 (ar : Nat → ClassId) (b : Nat) (w0 : zcW) (n e0 : Nat) (Ow : Nat → Nat) (off : Nat) (T : Nat → Nat → Int) : Prop := ∀ j, isj9 j → lsq9 ar b w0 n e0 (T j) ∧ ∀ e9 : Nat, T j 1 = (e9 : Int) → e9 ≠ e0 → Ow e9 = off + j
section LQS
variable {ar : Nat → ClassId} {b : Nat} {w0 w9 : zcW} {n e9 e0 : Nat} {τ T : Nat → Nat → Int} {Ow : Nat → Nat}
/-- no other list has the array that was added to -/
theorem lq_d {j j2 off off2 sz N9 n9 : Nat} {X : va_E} {f9 : Nat → Option Nat} (h : LQ9 ar b w0 n e0 Ow off τ) (h2 : LQ9 ar b w0 n e0 Ow off2 T) (hj : isj9 j) (hj2 : isj9 j2) (hne : off2 + j2 ≠ off + j) (hP : adP ar b τ w0 n e0 j sz X e9 N9 f9 w9 n9) : T j2 1 ≠ (e9 : Int) := by
  intro z
  obtain ⟨p1, p2, p3, p4, p5, p6, p7, p8, p9, p10, p11⟩ := hP
  have o2 := (h2 j2 hj2).2 e9 z p7
  rcases p9 with ⟨q1, q2, _⟩ | ⟨q1, _⟩
  · have o1 := (h j hj).2 e9 q1 p7
    omega
  · rcases (h2 j2 hj2).1 with ⟨g1, _⟩ | ⟨e8, N, f, g1, g2, g3, _⟩
    · omega
    · omega
/-- the lists of another holder keep their shape -/
theorem lq_k {off : Nat} {n9 : Nat} (K : kp9 b w0 w9 n e9) (hn9 : n ≤ n9) {o9 : Nat} (h2 : LQ9 ar b w0 n e0 Ow off T) (hd : ∀ j, isj9 j → T j 1 ≠ (e9 : Int)) : LQ9 ar b w9 n9 e0 (fun a => if a = e9 then o9 else Ow a) off T := by
  intro j hj
  refine ⟨kp_s K hn9 (hd j hj) (h2 j hj).1, fun e8 g1 g2 => ?_⟩
  show (if e8 = e9 then o9 else Ow e8) = _
  rw [if_neg (fun z => hd j hj (by rw [g1, z]))]
  exact (h2 j hj).2 e8 g1 g2
/-- the holder's own lists after adding to list j -/
theorem lq_a {j off sz N9 n9 ci : Nat} {fs : List Value} {f9 : Nat → Option Nat} {m9 : Int} {xr : vw_C} (hn : b + 47 ≤ n) (h : LQ9 ar b w0 n e0 Ow off τ) (hj : isj9 j) (hz : τ j 2 = ((sz : Nat) : Int)) (hfree : ∀ a, n ≤ a → w0 a = none) (hxc : vwCl[ci]? = some xr) (hxk : (xr.1, "java/lang/Object") ∈ nwC) (hall : ∀ i : Nat, i < sz → ∃ p, it9q ar b w0 (τ j) i p ∧ okE w0 p ∧ nf9 b p) (hP : adP ar b τ w0 n e0 j sz (.inr (ci, fs)) e9 N9 f9 w9 n9) : LQ9 ar b w9 n9 e0 (fun a => if a = e9 then off + j else Ow a) off (sA τ j (lv9 m9 ((e9 : Nat) : Int) (((sz : Nat) : Int) + 1))) := by
  have K := ad_kp (h j hj).1 hfree hP
  have n9 : n ≤ n9 := by have := hP.2.2.2.2.2.2.2.2.1; omega
  intro j2 hj2
  by_cases c : j2 = j
  · subst c
    rw [sA_at]
    refine ⟨ad_s hn (h j2 hj).1 hz hfree hxc hxk hall hP, fun e8 g1 g2 => ?_⟩
    have : e8 = e9 := by have q : ((e9 : Nat) : Int) = (e8 : Int) := g1; omega
    show (if e8 = e9 then off + j2 else Ow e8) = _
    rw [if_pos this]
  · rw [sA_ne _ _ c]
    have d := lq_d h h hj hj2 (by omega) hP
    refine ⟨kp_s K n9 d (h j2 hj2).1, fun e8 g1 g2 => ?_⟩
    show (if e8 = e9 then off + j else Ow e8) = _
    rw [if_neg (fun z => d (by rw [g1, z]))]
    exact (h j2 hj2).2 e8 g1 g2
/-- what is free stays free -/
theorem lq_f {j sz N9 n9 : Nat} {X : va_E} {f9 : Nat → Option Nat} (hn : b + 47 ≤ n) (hfree : ∀ a, n ≤ a → w0 a = none) (hP : adP ar b τ w0 n e0 j sz X e9 N9 f9 w9 n9) : ∀ a, n9 ≤ a → w9 a = none := by
  intro a ha
  obtain ⟨p1, p2, p3, p4, p5, p6, p7, p8, p9, p10, p11⟩ := hP
  rw [p11 a (Or.inr (Or.inr (by omega))) (by omega) (by omega)]
  exact hfree a (by omega)
/-- the items of a list, as adding wants them -/
theorem lq_i {t : Nat → Int} {N : Int} {ci : Nat} {fs : Nat → List Value} {xr : vw_C} (g : rlL ar b w0 t N ci fs) (hxc : vwCl[ci]? = some xr) (hxk : (xr.1, "java/lang/Object") ∈ nwC) {sz : Nat} (hz : N = ((sz : Nat) : Int)) : ∀ i : Nat, i < sz → ∃ p, it9q ar b w0 t i p ∧ okE w0 p ∧ nf9 b p := fun i hi =>
  let ⟨p, q1, q2⟩ := g.2 i (by omega)
  ⟨p, q1, ⟨ci, xr, fs i, q2.2, hxc, hxk⟩, q2.1⟩
end LQS
