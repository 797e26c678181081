section RLU
variable {ar : Nat → ClassId} {b : Nat} {w0 : zcW} {A : Nat → Int} {τ : Nat → Nat → Int}
theorem rel_calls (kn : Nat) (st called heard : Int) (hl : li A) (hc : cn A) (h : Rel9 ar b w0 A τ) (hk9 : A 6 = (kn : Int)) (hk8 : kn < 40) : Rel9 ar b w0 (ua (ua (ua (ua A (630 + 3 * kn) st) (630 + 3 * kn + 1) called) (630 + 3 * kn + 2) heard) 6 (A 6 + 1)) (sA (sA τ 1 (ua (τ 1) 16 (A 6 + 1))) 11 (ua (ua (ua (τ 11) (3 * kn) st) (3 * kn + 1) called) (3 * kn + 2) heard)) := by
  have e : ∀ i, (¬ i = 6 ∧ (i < 630 + 3 * kn ∨ 630 + 3 * kn + 2 < i)) → (ua (ua (ua (ua A (630 + 3 * kn) st) (630 + 3 * kn + 1) called) (630 + 3 * kn + 2) heard) 6 (A 6 + 1)) i = A i := by intro i hi; rw [ua_ne _ _ (by omega), ua_ne _ _ (by omega), ua_ne _ _ (by omega), ua_ne _ _ (by omega)]
  have z : rlI A (τ 1) (τ 12 0) := h.i
  unfold rlI at z
  show rlF ar b w0 (ua (ua (ua (ua A (630 + 3 * kn) st) (630 + 3 * kn + 1) called) (630 + 3 * kn + 2) heard) 6 (A 6 + 1)) (ua (τ 1) 16 (A 6 + 1)) (τ 2) (τ 3) (τ 4) (τ 5) (τ 6) (τ 7) (τ 8) (τ 9) (τ 10) (ua (ua (ua (τ 11) (3 * kn) st) (3 * kn + 1) called) (3 * kn + 2) heard) ((τ 12) 0) (τ 13) (τ 14)
  refine ⟨?_, ?_, ?_, ?_, ?_, ?_, ?_, ?_, ?_, ?_, ?_, ?_, ?_⟩
  · unfold rlI; exact ⟨by show ua (τ 1) 16 _ 0 = _; rw [ua_ne _ _ (by decide), e _ (by omega)]; exact z.1, by show ua (τ 1) 16 _ 8 = _; rw [ua_ne _ _ (by decide), e _ (by omega)]; exact z.2.1, by show ua (τ 1) 16 _ 9 = _; rw [ua_ne _ _ (by decide), e _ (by omega)]; exact z.2.2.1, by show ua (τ 1) 16 _ 10 = _; rw [ua_ne _ _ (by decide), e _ (by omega)]; exact z.2.2.2.1, by show ua (τ 1) 16 _ 12 = _; rw [ua_ne _ _ (by decide), e _ (by omega)]; exact z.2.2.2.2.1, by show ua (τ 1) 16 _ 13 = _; rw [ua_ne _ _ (by decide), e _ (by omega)]; exact z.2.2.2.2.2.1, by show ua (τ 1) 16 _ 14 = _; rw [ua_ne _ _ (by decide), e _ (by omega)]; exact z.2.2.2.2.2.2.1, by show ua (τ 1) 16 _ 16 = _; rw [ua_at, ua_at], by rw [e _ (by omega)]; exact z.2.2.2.2.2.2.2.2⟩
  · rw [e 1 (by omega)]; refine ⟨h.l2.1, fun i hi => ?_⟩; obtain ⟨p, q1, q2⟩ := h.l2.2 i hi; refine ⟨p, q1, ?_⟩; rw [show fWire (ua (ua (ua (ua A (630 + 3 * kn) st) (630 + 3 * kn + 1) called) (630 + 3 * kn + 2) heard) 6 (A 6 + 1)) i = fWire A i by (unfold fWire; rw [e _ (by omega), e _ (by omega), e _ (by omega), e _ (by omega)])]; exact q2
  · rw [e 2 (by omega)]; refine ⟨h.l3.1, fun i hi => ?_⟩; obtain ⟨p, q1, q2⟩ := h.l3.2 i hi; refine ⟨p, q1, ?_⟩; rw [show fStat (ua (ua (ua (ua A (630 + 3 * kn) st) (630 + 3 * kn + 1) called) (630 + 3 * kn + 2) heard) 6 (A 6 + 1)) i = fStat A i by (unfold fStat; rw [e _ (by omega), e _ (by omega), e _ (by omega)])]; exact q2
  · rw [e 3 (by omega)]; refine ⟨h.l6.1, fun i hi => ?_⟩; obtain ⟨p, q1, q2⟩ := h.l6.2 i hi; refine ⟨p, q1, ?_⟩; rw [show fMemb (ua (ua (ua (ua A (630 + 3 * kn) st) (630 + 3 * kn + 1) called) (630 + 3 * kn + 2) heard) 6 (A 6 + 1)) i = fMemb A i by (unfold fMemb; rw [e _ (by omega), e _ (by omega), e _ (by omega), e _ (by omega)])]; exact q2
  · rw [e 4 (by omega)]; refine ⟨h.l7.1, fun i hi => ?_⟩; obtain ⟨p, q1, q2⟩ := h.l7.2 i hi; refine ⟨p, q1, ?_⟩; rw [show fHour (ua (ua (ua (ua A (630 + 3 * kn) st) (630 + 3 * kn + 1) called) (630 + 3 * kn + 2) heard) 6 (A 6 + 1)) i = fHour A i by (unfold fHour; rw [e _ (by omega), e _ (by omega), e _ (by omega), e _ (by omega), e _ (by omega), e _ (by omega), e _ (by omega), e _ (by omega)])]; exact q2
  · rw [e 5 (by omega)]; refine ⟨h.l8.1, fun i hi => ?_⟩; obtain ⟨p, q1, q2⟩ := h.l8.2 i hi; refine ⟨p, q1, ?_⟩; rw [show fBrk (ua (ua (ua (ua A (630 + 3 * kn) st) (630 + 3 * kn + 1) called) (630 + 3 * kn + 2) heard) 6 (A 6 + 1)) i = fBrk A i by (unfold fBrk; rw [e _ (by omega), e _ (by omega), e _ (by omega), e _ (by omega), e _ (by omega), e _ (by omega)])]; exact q2
  · intro i hi; rw [e 2 (by omega), e _ (by omega)]; exact h.own i hi
  · intro z hz; rw [e _ (by omega), e _ (by omega)]; exact h.sum z hz
  · intro i hi; rw [e 10 (by omega)] at hi; rw [e _ (by omega)]; exact h.tape i hi
  · intro k hk; obtain ⟨p, q1, q2⟩ := h.con k hk; have a := hl k hk; exact ⟨p, q1, rlC_d hk (fun i z1 => e i (by omega)) (by omega) (fun x hx => (a.2 x hx).2) q2⟩
  · intro k q hk hq; rw [show (ua (ua (ua (ua A (630 + 3 * kn) st) (630 + 3 * kn + 1) called) (630 + 3 * kn + 2) heard) 6 (A 6 + 1)) 6 = A 6 + 1 from ua_at _ _ _] at hk; by_cases w : k = kn; (subst w; rcases (by omega : q = 0 ∨ q = 1 ∨ q = 2) with w | w | w; (subst w; rw [ua_ne _ _ (by omega), ua_ne _ _ (by omega), show 3 * k + 0 = 3 * k from rfl, ua_at, ua_ne _ _ (by omega), ua_ne _ _ (by omega), ua_ne _ _ (by omega), show 630 + 3 * k + 0 = 630 + 3 * k from rfl, ua_at]); (subst w; rw [ua_ne _ _ (by omega), ua_at, ua_ne _ _ (by omega), ua_ne _ _ (by omega), ua_at]); (subst w; rw [ua_at, ua_ne _ _ (by omega), ua_at])); (rw [ua_ne _ _ (by omega), ua_ne _ _ (by omega), ua_ne _ _ (by omega), e _ (by omega)]; exact h.calls k q (by omega) hq)
  · intro k hk; rw [e 7 (by omega)] at hk; rw [e _ (by omega)]; exact h.sorts k hk
  · intro k t hk ht; rw [e 7 (by omega), e _ (by omega)]; exact h.worths k t hk ht
theorem pz_v (A : Nat → Int) (q : Nat) (sort : Int) : ∀ t : Nat, (pz A q sort t q = sort) ∧ (∀ j, j < t → pz A q sort t (q + 1 + j) = 0) ∧ ∀ i, (i < q ∨ q + t < i) → pz A q sort t i = A i
  | 0 => ⟨ua_at _ _ _, fun j hj => absurd hj (Nat.not_lt_zero _), fun i hi => ua_ne _ _ (by omega)⟩
  | t + 1 => by
    obtain ⟨h1, h2, h3⟩ := pz_v A q sort t
    refine ⟨?_, ?_, ?_⟩
    · rw [pz, ua_ne _ _ (by omega)]; exact h1
    · intro j hj
      rw [pz]
      by_cases e : j = t
      · subst e; rw [ua_at]
      · rw [ua_ne _ _ (by omega)]; exact h2 j (by omega)
    · intro i hi
      rw [pz, ua_ne _ _ (by omega)]; exact h3 i (by omega)
theorem rel_piece (kn : Nat) (sort : Int) (hl : li A) (hc : cn A) (h : Rel9 ar b w0 A τ) (hk9 : A 7 = (kn : Int)) (hk8 : kn < 6) : Rel9 ar b w0 (ua (pz A (750 + 7 * kn) sort 6) 7 (A 7 + 1)) (sA (sA τ 12 (ua (τ 12) 0 (A 7 + 1))) 13 (ua (τ 13) kn sort)) := by
  have e : ∀ i, (¬ i = 7 ∧ (i < 750 + 7 * kn ∨ 750 + 7 * kn + 6 < i)) → (ua (pz A (750 + 7 * kn) sort 6) 7 (A 7 + 1)) i = A i := by intro i hi; rw [ua_ne _ _ (by omega)]; exact (pz_v A (750 + 7 * kn) sort 6).2.2 i (by omega)
  have z : rlI A (τ 1) (τ 12 0) := h.i
  unfold rlI at z
  show rlF ar b w0 (ua (pz A (750 + 7 * kn) sort 6) 7 (A 7 + 1)) (τ 1) (τ 2) (τ 3) (τ 4) (τ 5) (τ 6) (τ 7) (τ 8) (τ 9) (τ 10) (τ 11) ((ua (τ 12) 0 (A 7 + 1)) 0) (ua (τ 13) kn sort) (τ 14)
  refine ⟨?_, ?_, ?_, ?_, ?_, ?_, ?_, ?_, ?_, ?_, ?_, ?_, ?_⟩
  · unfold rlI; exact ⟨by rw [e _ (by omega)]; exact z.1, by rw [e _ (by omega)]; exact z.2.1, by rw [e _ (by omega)]; exact z.2.2.1, by rw [e _ (by omega)]; exact z.2.2.2.1, by rw [e _ (by omega)]; exact z.2.2.2.2.1, by rw [e _ (by omega)]; exact z.2.2.2.2.2.1, by rw [e _ (by omega)]; exact z.2.2.2.2.2.2.1, by rw [e _ (by omega)]; exact z.2.2.2.2.2.2.2.1, by show ua (τ 12) 0 _ 0 = _; rw [ua_at, ua_at]⟩
  · rw [e 1 (by omega)]; refine ⟨h.l2.1, fun i hi => ?_⟩; obtain ⟨p, q1, q2⟩ := h.l2.2 i hi; refine ⟨p, q1, ?_⟩; rw [show fWire (ua (pz A (750 + 7 * kn) sort 6) 7 (A 7 + 1)) i = fWire A i by (unfold fWire; rw [e _ (by omega), e _ (by omega), e _ (by omega), e _ (by omega)])]; exact q2
  · rw [e 2 (by omega)]; refine ⟨h.l3.1, fun i hi => ?_⟩; obtain ⟨p, q1, q2⟩ := h.l3.2 i hi; refine ⟨p, q1, ?_⟩; rw [show fStat (ua (pz A (750 + 7 * kn) sort 6) 7 (A 7 + 1)) i = fStat A i by (unfold fStat; rw [e _ (by omega), e _ (by omega), e _ (by omega)])]; exact q2
  · rw [e 3 (by omega)]; refine ⟨h.l6.1, fun i hi => ?_⟩; obtain ⟨p, q1, q2⟩ := h.l6.2 i hi; refine ⟨p, q1, ?_⟩; rw [show fMemb (ua (pz A (750 + 7 * kn) sort 6) 7 (A 7 + 1)) i = fMemb A i by (unfold fMemb; rw [e _ (by omega), e _ (by omega), e _ (by omega), e _ (by omega)])]; exact q2
  · rw [e 4 (by omega)]; refine ⟨h.l7.1, fun i hi => ?_⟩; obtain ⟨p, q1, q2⟩ := h.l7.2 i hi; refine ⟨p, q1, ?_⟩; rw [show fHour (ua (pz A (750 + 7 * kn) sort 6) 7 (A 7 + 1)) i = fHour A i by (unfold fHour; rw [e _ (by omega), e _ (by omega), e _ (by omega), e _ (by omega), e _ (by omega), e _ (by omega), e _ (by omega), e _ (by omega)])]; exact q2
  · rw [e 5 (by omega)]; refine ⟨h.l8.1, fun i hi => ?_⟩; obtain ⟨p, q1, q2⟩ := h.l8.2 i hi; refine ⟨p, q1, ?_⟩; rw [show fBrk (ua (pz A (750 + 7 * kn) sort 6) 7 (A 7 + 1)) i = fBrk A i by (unfold fBrk; rw [e _ (by omega), e _ (by omega), e _ (by omega), e _ (by omega), e _ (by omega), e _ (by omega)])]; exact q2
  · intro i hi; rw [e 2 (by omega), e _ (by omega)]; exact h.own i hi
  · intro z hz; rw [e _ (by omega), e _ (by omega)]; exact h.sum z hz
  · intro i hi; rw [e 10 (by omega)] at hi; rw [e _ (by omega)]; exact h.tape i hi
  · intro k hk; obtain ⟨p, q1, q2⟩ := h.con k hk; have a := hl k hk; exact ⟨p, q1, rlC_d hk (fun i z1 => e i (by omega)) (by omega) (fun x hx => (a.2 x hx).2) q2⟩
  · intro k q hk hq; rw [e 6 (by omega)] at hk; rw [e _ (by omega)]; exact h.calls k q hk hq
  · intro k hk; rw [show (ua (pz A (750 + 7 * kn) sort 6) 7 (A 7 + 1)) 7 = A 7 + 1 from ua_at _ _ _] at hk; by_cases w : k = kn; (subst w; rw [ua_at, ua_ne _ _ (by omega)]; exact (pz_v A (750 + 7 * k) sort 6).1.symm); (rw [ua_ne _ _ w, e _ (by omega)]; exact h.sorts k (by omega))
  · intro k t hk ht; rw [show (ua (pz A (750 + 7 * kn) sort 6) 7 (A 7 + 1)) 7 = A 7 + 1 from ua_at _ _ _, h.worths k t hk ht]; by_cases w : k = kn; (subst w; rw [if_neg (by omega), if_pos (by omega), ua_ne _ _ (by omega)]; exact ((pz_v A (750 + 7 * k) sort 6).2.1 t ht).symm); (rw [e _ (by omega)]; by_cases w2 : (k : Int) < A 7; (rw [if_pos w2, if_pos (by omega)]); (rw [if_neg w2, if_neg (by omega)]))
end RLU
