theorem pt_v (T : Nat → Int) (L : Nat) (w : Int) : ∀ n : Nat, (∀ j, j < n → pt9 T L w n (L + j) = sb9 (w / 2 ^ (24 - 8 * j))) ∧ ∀ i, (i < L ∨ L + n ≤ i) → pt9 T L w n i = T i
  | 0 => ⟨fun j hj => absurd hj (Nat.not_lt_zero _), fun i _ => rfl⟩
  | n + 1 => by
    obtain ⟨h1, h2⟩ := pt_v T L w n
    refine ⟨?_, ?_⟩
    · intro j hj
      rw [pt9]
      by_cases q : j = n
      · subst q; rw [ua_at]
      · rw [ua_ne _ _ (by omega)]; exact h1 j (by omega)
    · intro i hi
      rw [pt9, ua_ne _ _ (by omega)]; exact h2 i (by omega)
theorem pt_o {T : Nat → Int} {L : Nat} {w : Int} {i : Nat} (h : i < L ∨ L + 4 ≤ i) : pt9 T L w 4 i = T i := (pt_v T L w 4).2 i h
theorem pt_a {T : Nat → Int} {L : Nat} {w : Int} {i : Nat} (h : L ≤ i ∧ i < L + 4) : pt9 T L w 4 i = sb9 (w / 2 ^ (24 - 8 * (i - L))) := by
  have k := (pt_v T L w 4).1 (i - L) (by omega)
  rw [show L + (i - L) = i by omega] at k
  exact k
theorem feed_c {w : Int} {j r : Nat} (h : j % 4 = r) : sb9 (w / 2 ^ (24 - 8 * r)) = sb9 (w / 2 ^ ((24 - 8 * ((j : Int) % 4)) : Int).toNat % 2 ^ 8) := by
  rw [sb_mod, show ((24 - 8 * ((j : Int) % 4)) : Int).toNat = 24 - 8 * r by omega]
section RLV
variable {ar : Nat → ClassId} {b : Nat} {w0 : zcW} {A : Nat → Int} {τ : Nat → Nat → Int}

theorem rel_feed (a b1 c1 d1 e1 : Int) (hl : li A) (hc : cn A) (h : Rel9 ar b w0 A τ) (h4 : A 10 ≤ 480) : Rel9 ar b w0 (fd A a b1 c1 d1 e1 20) (sA (sA τ 1 (ua (τ 1) 12 ((((((τ 1 12 + 4) + 4) + 4) + 4) + 4)))) 9 (pt9 (pt9 (pt9 (pt9 (pt9 (τ 9) (τ 1 12).toNat a 4) ((τ 1 12 + 4)).toNat b1 4) (((τ 1 12 + 4) + 4)).toNat c1 4) ((((τ 1 12 + 4) + 4) + 4)).toNat d1 4) (((((τ 1 12 + 4) + 4) + 4) + 4)).toNat e1 4)) := by
  have e : ∀ i, (¬ i = 10 ∧ (i < 1760 + (A 10).toNat ∨ 1760 + (A 10).toNat + 20 ≤ i)) → (fd A a b1 c1 d1 e1 20) i = A i := by intro i hi; exact (fd_v A a b1 c1 d1 e1 (by omega) 20 (by omega)).2.2 i hi.1 (by omega)
  have z : rlI A (τ 1) (τ 12 0) := h.i
  unfold rlI at z
  show rlF ar b w0 (fd A a b1 c1 d1 e1 20) (ua (τ 1) 12 ((((((τ 1 12 + 4) + 4) + 4) + 4) + 4))) (τ 2) (τ 3) (τ 4) (τ 5) (τ 6) (τ 7) (τ 8) (pt9 (pt9 (pt9 (pt9 (pt9 (τ 9) (τ 1 12).toNat a 4) ((τ 1 12 + 4)).toNat b1 4) (((τ 1 12 + 4) + 4)).toNat c1 4) ((((τ 1 12 + 4) + 4) + 4)).toNat d1 4) (((((τ 1 12 + 4) + 4) + 4) + 4)).toNat e1 4) (τ 10) (τ 11) ((τ 12) 0) (τ 13) (τ 14)
  refine ⟨?_, ?_, ?_, ?_, ?_, ?_, ?_, ?_, ?_, ?_, ?_, ?_, ?_⟩
  · unfold rlI; exact ⟨by show ua (τ 1) 12 _ 0 = _; rw [ua_ne _ _ (by decide), e _ (by omega)]; exact z.1, by show ua (τ 1) 12 _ 8 = _; rw [ua_ne _ _ (by decide), e _ (by omega)]; exact z.2.1, by show ua (τ 1) 12 _ 9 = _; rw [ua_ne _ _ (by decide), e _ (by omega)]; exact z.2.2.1, by show ua (τ 1) 12 _ 10 = _; rw [ua_ne _ _ (by decide), e _ (by omega)]; exact z.2.2.2.1, by show ua (τ 1) 12 _ 12 = _; rw [ua_at, (fd_v A a b1 c1 d1 e1 (by omega) 20 (by omega)).1, z.2.2.2.2.1]; omega, by show ua (τ 1) 12 _ 13 = _; rw [ua_ne _ _ (by decide), e _ (by omega)]; exact z.2.2.2.2.2.1, by show ua (τ 1) 12 _ 14 = _; rw [ua_ne _ _ (by decide), e _ (by omega)]; exact z.2.2.2.2.2.2.1, by show ua (τ 1) 12 _ 16 = _; rw [ua_ne _ _ (by decide), e _ (by omega)]; exact z.2.2.2.2.2.2.2.1, by rw [e _ (by omega)]; exact z.2.2.2.2.2.2.2.2⟩
  · rw [e 1 (by omega)]; refine ⟨h.l2.1, fun i hi => ?_⟩; obtain ⟨p, q1, q2⟩ := h.l2.2 i hi; refine ⟨p, q1, ?_⟩; rw [show fWire (fd A a b1 c1 d1 e1 20) i = fWire A i by (unfold fWire; rw [e _ (by omega), e _ (by omega), e _ (by omega), e _ (by omega)])]; exact q2
  · rw [e 2 (by omega)]; refine ⟨h.l3.1, fun i hi => ?_⟩; obtain ⟨p, q1, q2⟩ := h.l3.2 i hi; refine ⟨p, q1, ?_⟩; rw [show fStat (fd A a b1 c1 d1 e1 20) i = fStat A i by (unfold fStat; rw [e _ (by omega), e _ (by omega), e _ (by omega)])]; exact q2
  · rw [e 3 (by omega)]; refine ⟨h.l6.1, fun i hi => ?_⟩; obtain ⟨p, q1, q2⟩ := h.l6.2 i hi; refine ⟨p, q1, ?_⟩; rw [show fMemb (fd A a b1 c1 d1 e1 20) i = fMemb A i by (unfold fMemb; rw [e _ (by omega), e _ (by omega), e _ (by omega), e _ (by omega)])]; exact q2
  · rw [e 4 (by omega)]; refine ⟨h.l7.1, fun i hi => ?_⟩; obtain ⟨p, q1, q2⟩ := h.l7.2 i hi; refine ⟨p, q1, ?_⟩; rw [show fHour (fd A a b1 c1 d1 e1 20) i = fHour A i by (unfold fHour; rw [e _ (by omega), e _ (by omega), e _ (by omega), e _ (by omega), e _ (by omega), e _ (by omega), e _ (by omega), e _ (by omega)])]; exact q2
  · rw [e 5 (by omega)]; refine ⟨h.l8.1, fun i hi => ?_⟩; obtain ⟨p, q1, q2⟩ := h.l8.2 i hi; refine ⟨p, q1, ?_⟩; rw [show fBrk (fd A a b1 c1 d1 e1 20) i = fBrk A i by (unfold fBrk; rw [e _ (by omega), e _ (by omega), e _ (by omega), e _ (by omega), e _ (by omega), e _ (by omega)])]; exact q2
  · intro i hi; rw [e 2 (by omega), e _ (by omega)]; exact h.own i hi
  · intro z hz; rw [e _ (by omega), e _ (by omega)]; exact h.sum z hz
  · intro i hi
    have zt : τ 1 12 = A 10 := z.2.2.2.2.1
    have fv := fd_v A a b1 c1 d1 e1 (by omega) 20 (by omega)
    rw [fv.1] at hi
    rw [zt, show (A 10 + 4).toNat = (A 10).toNat + 4 by omega, show (A 10 + 4 + 4).toNat = (A 10).toNat + 8 by omega, show (A 10 + 4 + 4 + 4).toNat = (A 10).toNat + 12 by omega, show (A 10 + 4 + 4 + 4 + 4).toNat = (A 10).toNat + 16 by omega]
    by_cases q : i < (A 10).toNat
    · rw [pt_o (by omega), pt_o (by omega), pt_o (by omega), pt_o (by omega), pt_o (by omega), e _ (by omega)]
      exact h.tape i (by omega)
    · obtain ⟨j, rfl⟩ : ∃ j, i = (A 10).toNat + j := ⟨i - (A 10).toNat, by omega⟩
      rw [show 1760 + ((A 10).toNat + j) = 1760 + (A 10).toNat + j by omega, fv.2.1 j (by omega)]
      rcases (by omega : j < 4 ∨ (4 ≤ j ∧ j < 8) ∨ (8 ≤ j ∧ j < 12) ∨ (12 ≤ j ∧ j < 16) ∨ (16 ≤ j ∧ j < 20)) with q | q | q | q | q
      · rw [pt_o (by omega), pt_o (by omega), pt_o (by omega), pt_o (by omega), pt_a (by omega), show fdw a b1 c1 d1 e1 j = a by (unfold fdw; rw [if_pos (by omega)])]; exact feed_c (by omega)
      · rw [pt_o (by omega), pt_o (by omega), pt_o (by omega), pt_a (by omega), show fdw a b1 c1 d1 e1 j = b1 by (unfold fdw; rw [if_neg (by omega)]; rw [if_pos (by omega)])]; exact feed_c (by omega)
      · rw [pt_o (by omega), pt_o (by omega), pt_a (by omega), show fdw a b1 c1 d1 e1 j = c1 by (unfold fdw; rw [if_neg (by omega)]; rw [if_neg (by omega)]; rw [if_pos (by omega)])]; exact feed_c (by omega)
      · rw [pt_o (by omega), pt_a (by omega), show fdw a b1 c1 d1 e1 j = d1 by (unfold fdw; rw [if_neg (by omega)]; rw [if_neg (by omega)]; rw [if_neg (by omega)]; rw [if_pos (by omega)])]; exact feed_c (by omega)
      · rw [pt_a (by omega), show fdw a b1 c1 d1 e1 j = e1 by (unfold fdw; rw [if_neg (by omega)]; rw [if_neg (by omega)]; rw [if_neg (by omega)]; rw [if_neg (by omega)]; skip)]; exact feed_c (by omega)
  · intro k hk; obtain ⟨p, q1, q2⟩ := h.con k hk; have a := hl k hk; exact ⟨p, q1, rlC_d hk (fun i z1 => e i (by omega)) (by omega) (fun x hx => (a.2 x hx).2) q2⟩
  · intro k q hk hq; rw [e 6 (by omega)] at hk; rw [e _ (by omega)]; exact h.calls k q hk hq
  · intro k hk; rw [e 7 (by omega)] at hk; rw [e _ (by omega)]; exact h.sorts k hk
  · intro k t hk ht; rw [e 7 (by omega), e _ (by omega)]; exact h.worths k t hk ht
end RLV
