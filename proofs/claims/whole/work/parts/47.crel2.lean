theorem rlC_d {ar : Nat → ClassId} {b : Nat} {w0 : zcW} {A A' : Nat → Int} {k p : Nat} (hk : k < 3) (e : ∀ i, (14 ≤ i ∧ i < 17) ∨ (800 ≤ i ∧ i < 1760) → A' i = A i) (hl : A (14 + k) ≤ 16) (hl2 : ∀ x : Nat, (x : Int) < A (14 + k) → A (800 + 320 * k + 20 * x) ≤ 4) (h : rlC ar b w0 A k p) : rlC ar b w0 A' k p := by
  refine rlC_c (A := fun i => if (14 ≤ i ∧ i < 17) ∨ (800 ≤ i ∧ i < 1760) then A i else A' i) hk (fun i z1 z2 => ?_) ?_ ?_ ?_
  · by_cases c : (14 ≤ i ∧ i < 17) ∨ (800 ≤ i ∧ i < 1760)
    · rw [if_pos c]; exact e i c
    · rw [if_neg c]
  · rw [if_pos (by omega)]; exact hl
  · intro x hx
    rw [if_pos (by omega)] at hx
    rw [if_pos (by omega)]; exact hl2 x hx
  · have k1 : ∀ i, (14 ≤ i ∧ i < 17) ∨ (800 ≤ i ∧ i < 1760) → (fun i => if (14 ≤ i ∧ i < 17) ∨ (800 ≤ i ∧ i < 1760) then A i else A' i) i = A i := fun i z => if_pos z
    obtain ⟨pd, pc, pt, fd, fc, ft, h1, h2, h3, h4, h5⟩ := h
    refine ⟨pd, pc, pt, fd, fc, ft, ?_, h2, h3, h4, ?_⟩
    · rw [k1 _ (by omega)]; exact h1
    · intro x hx
      rw [k1 _ (by omega)] at hx
      obtain ⟨g1, g2, g3⟩ := h5 x hx
      have z := hl2 x hx
      refine ⟨?_, ?_, ?_⟩
      · unfold deed
        rw [k1 _ (by omega), k1 _ (by omega)]
        exact g1
      · rw [k1 _ (by omega)]; exact g2
      · intro t ht
        rw [k1 _ (by omega)] at ht
        obtain ⟨q1, q2, q3, q4⟩ := g3 t ht
        rw [k1 _ (by omega), k1 (800 + 320 * k + 20 * x + 1 + 4 * t + 1) (by omega), k1 (800 + 320 * k + 20 * x + 1 + 4 * t + 2) (by omega), k1 (800 + 320 * k + 20 * x + 1 + 4 * t + 3) (by omega)]
        exact ⟨q1, q2, q3, q4⟩
section RLT
variable {ar : Nat → ClassId} {b : Nat} {w0 : zcW} {A : Nat → Int} {τ : Nat → Nat → Int}

theorem rel_summer (zn : Nat) (fr to : Int) (hl : li A) (hc : cn A) (h : Rel9 ar b w0 A τ) (hz : zn < 4) (h1 : inI fr) (h2 : inI to) : Rel9 ar b w0 (ua (ua A (20 + 2 * zn) fr) (20 + 2 * zn + 1) to) (sA τ 5 (ua (ua (τ 5) (2 * zn) fr) (2 * zn + 1) to)) := by
  have e : ∀ i, (i < 20 ∨ 28 ≤ i) → (ua (ua A (20 + 2 * zn) fr) (20 + 2 * zn + 1) to) i = A i := by intro i hi; rw [ua_ne _ _ (by omega), ua_ne _ _ (by omega)]
  have z : rlI A (τ 1) (τ 12 0) := h.i
  unfold rlI at z
  show rlF ar b w0 (ua (ua A (20 + 2 * zn) fr) (20 + 2 * zn + 1) to) (τ 1) (τ 2) (τ 3) (τ 4) (ua (ua (τ 5) (2 * zn) fr) (2 * zn + 1) to) (τ 6) (τ 7) (τ 8) (τ 9) (τ 10) (τ 11) ((τ 12) 0) (τ 13) (τ 14)
  refine ⟨?_, ?_, ?_, ?_, ?_, ?_, ?_, ?_, ?_, ?_, ?_, ?_, ?_⟩
  · unfold rlI; rw [e 0 (by omega), e 8 (by omega), e 9 (by omega), e 13 (by omega), e 10 (by omega), e 11 (by omega), e 12 (by omega), e 6 (by omega), e 7 (by omega)]; exact z
  · rw [e 1 (by omega)]; refine ⟨h.l2.1, fun i hi => ?_⟩; obtain ⟨p, q1, q2⟩ := h.l2.2 i hi; refine ⟨p, q1, ?_⟩; rw [show fWire (ua (ua A (20 + 2 * zn) fr) (20 + 2 * zn + 1) to) i = fWire A i by (unfold fWire; rw [e _ (by omega), e _ (by omega), e _ (by omega), e _ (by omega)])]; exact q2
  · rw [e 2 (by omega)]; refine ⟨h.l3.1, fun i hi => ?_⟩; obtain ⟨p, q1, q2⟩ := h.l3.2 i hi; refine ⟨p, q1, ?_⟩; rw [show fStat (ua (ua A (20 + 2 * zn) fr) (20 + 2 * zn + 1) to) i = fStat A i by (unfold fStat; rw [e _ (by omega), e _ (by omega), e _ (by omega)])]; exact q2
  · rw [e 3 (by omega)]; refine ⟨h.l6.1, fun i hi => ?_⟩; obtain ⟨p, q1, q2⟩ := h.l6.2 i hi; refine ⟨p, q1, ?_⟩; rw [show fMemb (ua (ua A (20 + 2 * zn) fr) (20 + 2 * zn + 1) to) i = fMemb A i by (unfold fMemb; rw [e _ (by omega), e _ (by omega), e _ (by omega), e _ (by omega)])]; exact q2
  · rw [e 4 (by omega)]; refine ⟨h.l7.1, fun i hi => ?_⟩; obtain ⟨p, q1, q2⟩ := h.l7.2 i hi; refine ⟨p, q1, ?_⟩; rw [show fHour (ua (ua A (20 + 2 * zn) fr) (20 + 2 * zn + 1) to) i = fHour A i by (unfold fHour; rw [e _ (by omega), e _ (by omega), e _ (by omega), e _ (by omega), e _ (by omega), e _ (by omega), e _ (by omega), e _ (by omega)])]; exact q2
  · rw [e 5 (by omega)]; refine ⟨h.l8.1, fun i hi => ?_⟩; obtain ⟨p, q1, q2⟩ := h.l8.2 i hi; refine ⟨p, q1, ?_⟩; rw [show fBrk (ua (ua A (20 + 2 * zn) fr) (20 + 2 * zn + 1) to) i = fBrk A i by (unfold fBrk; rw [e _ (by omega), e _ (by omega), e _ (by omega), e _ (by omega), e _ (by omega), e _ (by omega)])]; exact q2
  · intro i hi; rw [e 2 (by omega), e _ (by omega)]; exact h.own i hi
  · intro x hx; by_cases q : x = zn; (subst q; rw [ua_at, ua_ne _ _ (by omega), ua_at, ua_at, ua_ne _ _ (by omega), ua_at]; exact ⟨⟨h1, h2⟩, fun d => Iff.rfl⟩); (rw [ua_ne _ _ (by omega), ua_ne _ _ (by omega), ua_ne _ _ (by omega), ua_ne _ _ (by omega), ua_ne _ _ (by omega), ua_ne _ _ (by omega), ua_ne _ _ (by omega), ua_ne _ _ (by omega)]; exact h.sum x hx)
  · intro i hi; rw [e 10 (by omega)] at hi; rw [e _ (by omega)]; exact h.tape i hi
  · intro k hk; obtain ⟨p, q1, q2⟩ := h.con k hk; have a := hl k hk; exact ⟨p, q1, rlC_d hk (fun i z1 => e i (by omega)) (by omega) (fun x hx => (a.2 x hx).2) q2⟩
  · intro k q hk hq; rw [e 6 (by omega)] at hk; rw [e _ (by omega)]; exact h.calls k q hk hq
  · intro k hk; rw [e 7 (by omega)] at hk; rw [e _ (by omega)]; exact h.sorts k hk
  · intro k t hk ht; rw [e 7 (by omega), e _ (by omega)]; exact h.worths k t hk ht
theorem rel_own (sn : Nat) (v : Int) (hl : li A) (hc : cn A) (h : Rel9 ar b w0 A τ) (hz : (sn : Int) < A 2) : Rel9 ar b w0 (ua A (80 + 4 * sn + 3) v) (sA τ 4 (ua (τ 4) sn v)) := by
  have e : ∀ i, (¬ i = 80 + 4 * sn + 3) → (ua A (80 + 4 * sn + 3) v) i = A i := by intro i hi; exact ua_ne _ _ hi
  have z : rlI A (τ 1) (τ 12 0) := h.i
  unfold rlI at z
  show rlF ar b w0 (ua A (80 + 4 * sn + 3) v) (τ 1) (τ 2) (τ 3) (ua (τ 4) sn v) (τ 5) (τ 6) (τ 7) (τ 8) (τ 9) (τ 10) (τ 11) ((τ 12) 0) (τ 13) (τ 14)
  refine ⟨?_, ?_, ?_, ?_, ?_, ?_, ?_, ?_, ?_, ?_, ?_, ?_, ?_⟩
  · unfold rlI; rw [e 0 (by omega), e 8 (by omega), e 9 (by omega), e 13 (by omega), e 10 (by omega), e 11 (by omega), e 12 (by omega), e 6 (by omega), e 7 (by omega)]; exact z
  · rw [e 1 (by omega)]; refine ⟨h.l2.1, fun i hi => ?_⟩; obtain ⟨p, q1, q2⟩ := h.l2.2 i hi; refine ⟨p, q1, ?_⟩; rw [show fWire (ua A (80 + 4 * sn + 3) v) i = fWire A i by (unfold fWire; rw [e _ (by omega), e _ (by omega), e _ (by omega), e _ (by omega)])]; exact q2
  · rw [e 2 (by omega)]; refine ⟨h.l3.1, fun i hi => ?_⟩; obtain ⟨p, q1, q2⟩ := h.l3.2 i hi; refine ⟨p, q1, ?_⟩; rw [show fStat (ua A (80 + 4 * sn + 3) v) i = fStat A i by (unfold fStat; rw [e _ (by omega), e _ (by omega), e _ (by omega)])]; exact q2
  · rw [e 3 (by omega)]; refine ⟨h.l6.1, fun i hi => ?_⟩; obtain ⟨p, q1, q2⟩ := h.l6.2 i hi; refine ⟨p, q1, ?_⟩; rw [show fMemb (ua A (80 + 4 * sn + 3) v) i = fMemb A i by (unfold fMemb; rw [e _ (by omega), e _ (by omega), e _ (by omega), e _ (by omega)])]; exact q2
  · rw [e 4 (by omega)]; refine ⟨h.l7.1, fun i hi => ?_⟩; obtain ⟨p, q1, q2⟩ := h.l7.2 i hi; refine ⟨p, q1, ?_⟩; rw [show fHour (ua A (80 + 4 * sn + 3) v) i = fHour A i by (unfold fHour; rw [e _ (by omega), e _ (by omega), e _ (by omega), e _ (by omega), e _ (by omega), e _ (by omega), e _ (by omega), e _ (by omega)])]; exact q2
  · rw [e 5 (by omega)]; refine ⟨h.l8.1, fun i hi => ?_⟩; obtain ⟨p, q1, q2⟩ := h.l8.2 i hi; refine ⟨p, q1, ?_⟩; rw [show fBrk (ua A (80 + 4 * sn + 3) v) i = fBrk A i by (unfold fBrk; rw [e _ (by omega), e _ (by omega), e _ (by omega), e _ (by omega), e _ (by omega), e _ (by omega)])]; exact q2
  · intro i hi; rw [e 2 (by omega)]; by_cases q : i = sn; (subst q; rw [ua_at, if_pos hz, ua_at]); (rw [ua_ne _ _ q, e _ (by omega)]; exact h.own i hi)
  · intro z hz; rw [e _ (by omega), e _ (by omega)]; exact h.sum z hz
  · intro i hi; rw [e 10 (by omega)] at hi; rw [e _ (by omega)]; exact h.tape i hi
  · intro k hk; obtain ⟨p, q1, q2⟩ := h.con k hk; have a := hl k hk; exact ⟨p, q1, rlC_d hk (fun i z1 => e i (by omega)) (by omega) (fun x hx => (a.2 x hx).2) q2⟩
  · intro k q hk hq; rw [e 6 (by omega)] at hk; rw [e _ (by omega)]; exact h.calls k q hk hq
  · intro k hk; rw [e 7 (by omega)] at hk; rw [e _ (by omega)]; exact h.sorts k hk
  · intro k t hk ht; rw [e 7 (by omega), e _ (by omega)]; exact h.worths k t hk ht
theorem rel_worth (pn tn : Nat) (v : Int) (hl : li A) (hc : cn A) (h : Rel9 ar b w0 A τ) (hp : (pn : Int) < A 7) (ht : tn < 6) : Rel9 ar b w0 (ua A (750 + 7 * pn + 1 + tn) v) (sA τ 14 (ua (τ 14) (6 * pn + tn) v)) := by
  have e : ∀ i, (¬ i = 750 + 7 * pn + 1 + tn) → (ua A (750 + 7 * pn + 1 + tn) v) i = A i := by intro i hi; exact ua_ne _ _ hi
  have z : rlI A (τ 1) (τ 12 0) := h.i
  unfold rlI at z
  show rlF ar b w0 (ua A (750 + 7 * pn + 1 + tn) v) (τ 1) (τ 2) (τ 3) (τ 4) (τ 5) (τ 6) (τ 7) (τ 8) (τ 9) (τ 10) (τ 11) ((τ 12) 0) (τ 13) (ua (τ 14) (6 * pn + tn) v)
  refine ⟨?_, ?_, ?_, ?_, ?_, ?_, ?_, ?_, ?_, ?_, ?_, ?_, ?_⟩
  · unfold rlI; rw [e 0 (by omega), e 8 (by omega), e 9 (by omega), e 13 (by omega), e 10 (by omega), e 11 (by omega), e 12 (by omega), e 6 (by omega), e 7 (by omega)]; exact z
  · rw [e 1 (by omega)]; refine ⟨h.l2.1, fun i hi => ?_⟩; obtain ⟨p, q1, q2⟩ := h.l2.2 i hi; refine ⟨p, q1, ?_⟩; rw [show fWire (ua A (750 + 7 * pn + 1 + tn) v) i = fWire A i by (unfold fWire; rw [e _ (by omega), e _ (by omega), e _ (by omega), e _ (by omega)])]; exact q2
  · rw [e 2 (by omega)]; refine ⟨h.l3.1, fun i hi => ?_⟩; obtain ⟨p, q1, q2⟩ := h.l3.2 i hi; refine ⟨p, q1, ?_⟩; rw [show fStat (ua A (750 + 7 * pn + 1 + tn) v) i = fStat A i by (unfold fStat; rw [e _ (by omega), e _ (by omega), e _ (by omega)])]; exact q2
  · rw [e 3 (by omega)]; refine ⟨h.l6.1, fun i hi => ?_⟩; obtain ⟨p, q1, q2⟩ := h.l6.2 i hi; refine ⟨p, q1, ?_⟩; rw [show fMemb (ua A (750 + 7 * pn + 1 + tn) v) i = fMemb A i by (unfold fMemb; rw [e _ (by omega), e _ (by omega), e _ (by omega), e _ (by omega)])]; exact q2
  · rw [e 4 (by omega)]; refine ⟨h.l7.1, fun i hi => ?_⟩; obtain ⟨p, q1, q2⟩ := h.l7.2 i hi; refine ⟨p, q1, ?_⟩; rw [show fHour (ua A (750 + 7 * pn + 1 + tn) v) i = fHour A i by (unfold fHour; rw [e _ (by omega), e _ (by omega), e _ (by omega), e _ (by omega), e _ (by omega), e _ (by omega), e _ (by omega), e _ (by omega)])]; exact q2
  · rw [e 5 (by omega)]; refine ⟨h.l8.1, fun i hi => ?_⟩; obtain ⟨p, q1, q2⟩ := h.l8.2 i hi; refine ⟨p, q1, ?_⟩; rw [show fBrk (ua A (750 + 7 * pn + 1 + tn) v) i = fBrk A i by (unfold fBrk; rw [e _ (by omega), e _ (by omega), e _ (by omega), e _ (by omega), e _ (by omega), e _ (by omega)])]; exact q2
  · intro i hi; rw [e 2 (by omega), e _ (by omega)]; exact h.own i hi
  · intro z hz; rw [e _ (by omega), e _ (by omega)]; exact h.sum z hz
  · intro i hi; rw [e 10 (by omega)] at hi; rw [e _ (by omega)]; exact h.tape i hi
  · intro k hk; obtain ⟨p, q1, q2⟩ := h.con k hk; have a := hl k hk; exact ⟨p, q1, rlC_d hk (fun i z1 => e i (by omega)) (by omega) (fun x hx => (a.2 x hx).2) q2⟩
  · intro k q hk hq; rw [e 6 (by omega)] at hk; rw [e _ (by omega)]; exact h.calls k q hk hq
  · intro k hk; rw [e 7 (by omega)] at hk; rw [e _ (by omega)]; exact h.sorts k hk
  · intro k t hk ht2; rw [e 7 (by omega)]; by_cases q : k = pn ∧ t = tn; (obtain ⟨q1, q2⟩ := q; subst q1; subst q2; rw [ua_at, if_pos hp, ua_at]); (rw [ua_ne _ _ (by omega), e _ (by omega)]; exact h.worths k t hk ht2)
end RLT
