/-! the relation is kept: what is told of the single numbers -/
theorem rlC_c {ar : Nat → ClassId} {b : Nat} {w0 : zcW} {A A' : Nat → Int} {k p : Nat} (hk : k < 3) (e : ∀ i, 14 ≤ i → i < 1760 → A' i = A i) (hl : A (14 + k) ≤ 16) (hl2 : ∀ x : Nat, (x : Int) < A (14 + k) → A (800 + 320 * k + 20 * x) ≤ 4) (h : rlC ar b w0 A k p) : rlC ar b w0 A' k p := by
  obtain ⟨pd, pc, pt, fd, fc, ft, h1, h2, h3, h4, h5⟩ := h
  refine ⟨pd, pc, pt, fd, fc, ft, ?_, h2, h3, h4, ?_⟩
  · rw [e _ (by omega) (by omega)]; exact h1
  · intro x hx
    rw [e _ (by omega) (by omega)] at hx
    obtain ⟨g1, g2, g3⟩ := h5 x hx
    have z := hl2 x hx
    refine ⟨?_, ?_, ?_⟩
    · unfold deed
      rw [e _ (by omega) (by omega), e _ (by omega) (by omega)]
      exact g1
    · rw [e _ (by omega) (by omega)]; exact g2
    · intro t ht
      rw [e _ (by omega) (by omega)] at ht
      obtain ⟨q1, q2, q3, q4⟩ := g3 t ht
      rw [e _ (by omega) (by omega), e (800 + 320 * k + 20 * x + 1 + 4 * t + 1) (by omega) (by omega), e (800 + 320 * k + 20 * x + 1 + 4 * t + 2) (by omega) (by omega), e (800 + 320 * k + 20 * x + 1 + 4 * t + 3) (by omega) (by omega)]
      exact ⟨q1, q2, q3, q4⟩
theorem fs_c {A A' : Nat → Int} (e : ∀ i, 14 ≤ i → A' i = A i) : fWire A' = fWire A ∧ fStat A' = fStat A ∧ fMemb A' = fMemb A ∧ fHour A' = fHour A ∧ fBrk A' = fBrk A := by
  refine ⟨?_, ?_, ?_, ?_, ?_⟩
  · funext i; unfold fWire; rw [e _ (by omega), e _ (by omega), e _ (by omega), e _ (by omega)]
  · funext i; unfold fStat; rw [e _ (by omega), e _ (by omega), e _ (by omega)]
  · funext i; unfold fMemb; rw [e _ (by omega), e _ (by omega), e _ (by omega), e _ (by omega)]
  · funext i; unfold fHour; rw [e _ (by omega), e _ (by omega), e _ (by omega), e _ (by omega), e _ (by omega), e _ (by omega), e _ (by omega), e _ (by omega)]
  · funext i; unfold fBrk; rw [e _ (by omega), e _ (by omega), e _ (by omega), e _ (by omega), e _ (by omega), e _ (by omega)]
/-- numbers of Told alone have changed -/
theorem rel_c {ar : Nat → ClassId} {b : Nat} {w0 : zcW} {A A' : Nat → Int} {τ : Nat → Nat → Int} {T1 : Nat → Int} (hl : li A) (h : Rel9 ar b w0 A τ) (e : ∀ i, 14 ≤ i → A' i = A i) (e2 : A' 1 = A 1 ∧ A' 2 = A 2 ∧ A' 3 = A 3 ∧ A' 4 = A 4 ∧ A' 5 = A 5 ∧ A' 6 = A 6 ∧ A' 7 = A 7 ∧ A' 10 ≤ A 10) (hI : rlI A' T1 (τ 12 0)) : Rel9 ar b w0 A' (sA τ 1 T1) := by
  obtain ⟨f1, f2, f3, f4, f5⟩ := fs_c e
  obtain ⟨g1, g2, g3, g4, g5, g6, g7, g8⟩ := e2
  unfold Rel9
  rw [sA_at, sA_ne (k := 2) _ _ (by omega), sA_ne (k := 3) _ _ (by omega), sA_ne (k := 4) _ _ (by omega), sA_ne (k := 5) _ _ (by omega), sA_ne (k := 6) _ _ (by omega), sA_ne (k := 7) _ _ (by omega), sA_ne (k := 8) _ _ (by omega), sA_ne (k := 9) _ _ (by omega), sA_ne (k := 10) _ _ (by omega), sA_ne (k := 11) _ _ (by omega), sA_ne (k := 12) _ _ (by omega), sA_ne (k := 13) _ _ (by omega), sA_ne (k := 14) _ _ (by omega)]
  refine ⟨hI, ?_, ?_, ?_, ?_, ?_, ?_, ?_, ?_, ?_, ?_, ?_, ?_⟩
  · rw [g1, f1]; exact h.l2
  · rw [g2, f2]; exact h.l3
  · rw [g3, f3]; exact h.l6
  · rw [g4, f4]; exact h.l7
  · rw [g5, f5]; exact h.l8
  · intro i hi; rw [g2, e _ (by omega)]; exact h.own i hi
  · intro z hz; rw [e _ (by omega), e _ (by omega)]; exact h.sum z hz
  · intro i hi; rw [e _ (by omega)]; exact h.tape i (by omega)
  · intro k hk
    obtain ⟨p, q1, q2⟩ := h.con k hk
    have a := hl k hk
    exact ⟨p, q1, rlC_c hk (fun i z _ => e i z) (by omega) (fun x hx => (a.2 x hx).2) q2⟩
  · intro k q hk hq; rw [g6] at hk; rw [e _ (by omega)]; exact h.calls k q hk hq
  · intro k hk; rw [g7] at hk; rw [e _ (by omega)]; exact h.sorts k hk
  · intro k t hk ht; rw [g7, e _ (by omega)]; exact h.worths k t hk ht
section RLS
variable {ar : Nat → ClassId} {b : Nat} {w0 : zcW} {A : Nat → Int} {τ : Nat → Nat → Int}
theorem rel_town (hl : li A) (h : Rel9 ar b w0 A τ) (v : Int) : Rel9 ar b w0 (ua A 0 v) (sA τ 1 (ua (τ 1) 0 v)) := by
  have z : rlI A (τ 1) (τ 12 0) := h.i
  unfold rlI at z
  refine rel_c hl h (fun i hi => ua_ne _ _ (by omega)) ⟨ua_ne _ _ (by decide), ua_ne _ _ (by decide), ua_ne _ _ (by decide), ua_ne _ _ (by decide), ua_ne _ _ (by decide), ua_ne _ _ (by decide), ua_ne _ _ (by decide), by rw [ua_ne _ _ (by decide)]; exact Int.le_refl _⟩ ?_
  unfold rlI
  exact ⟨by show ua (τ 1) 0 _ 0 = ua A 0 _ 0; rw [ua_at, ua_at], by show ua (τ 1) 0 _ 8 = ua A 0 _ 8; rw [ua_ne _ _ (by decide), ua_ne _ _ (by decide)]; exact z.2.1, by show ua (τ 1) 0 _ 9 = ua A 0 _ 9; rw [ua_ne _ _ (by decide), ua_ne _ _ (by decide)]; exact z.2.2.1, by show ua (τ 1) 0 _ 10 = ua A 0 _ 13; rw [ua_ne _ _ (by decide), ua_ne _ _ (by decide)]; exact z.2.2.2.1, by show ua (τ 1) 0 _ 12 = ua A 0 _ 10; rw [ua_ne _ _ (by decide), ua_ne _ _ (by decide)]; exact z.2.2.2.2.1, by show ua (τ 1) 0 _ 13 = ua A 0 _ 11; rw [ua_ne _ _ (by decide), ua_ne _ _ (by decide)]; exact z.2.2.2.2.2.1, by show ua (τ 1) 0 _ 14 = ua A 0 _ 12; rw [ua_ne _ _ (by decide), ua_ne _ _ (by decide)]; exact z.2.2.2.2.2.2.1, by show ua (τ 1) 0 _ 16 = ua A 0 _ 6; rw [ua_ne _ _ (by decide), ua_ne _ _ (by decide)]; exact z.2.2.2.2.2.2.2.1, by show _ = ua A 0 _ 7; rw [ua_ne _ _ (by decide)]; exact z.2.2.2.2.2.2.2.2⟩
theorem rel_day (hl : li A) (h : Rel9 ar b w0 A τ) (v : Int) : Rel9 ar b w0 (ua A 8 v) (sA τ 1 (ua (τ 1) 8 v)) := by
  have z : rlI A (τ 1) (τ 12 0) := h.i
  unfold rlI at z
  refine rel_c hl h (fun i hi => ua_ne _ _ (by omega)) ⟨ua_ne _ _ (by decide), ua_ne _ _ (by decide), ua_ne _ _ (by decide), ua_ne _ _ (by decide), ua_ne _ _ (by decide), ua_ne _ _ (by decide), ua_ne _ _ (by decide), by rw [ua_ne _ _ (by decide)]; exact Int.le_refl _⟩ ?_
  unfold rlI
  exact ⟨by show ua (τ 1) 8 _ 0 = ua A 8 _ 0; rw [ua_ne _ _ (by decide), ua_ne _ _ (by decide)]; exact z.1, by show ua (τ 1) 8 _ 8 = ua A 8 _ 8; rw [ua_at, ua_at], by show ua (τ 1) 8 _ 9 = ua A 8 _ 9; rw [ua_ne _ _ (by decide), ua_ne _ _ (by decide)]; exact z.2.2.1, by show ua (τ 1) 8 _ 10 = ua A 8 _ 13; rw [ua_ne _ _ (by decide), ua_ne _ _ (by decide)]; exact z.2.2.2.1, by show ua (τ 1) 8 _ 12 = ua A 8 _ 10; rw [ua_ne _ _ (by decide), ua_ne _ _ (by decide)]; exact z.2.2.2.2.1, by show ua (τ 1) 8 _ 13 = ua A 8 _ 11; rw [ua_ne _ _ (by decide), ua_ne _ _ (by decide)]; exact z.2.2.2.2.2.1, by show ua (τ 1) 8 _ 14 = ua A 8 _ 12; rw [ua_ne _ _ (by decide), ua_ne _ _ (by decide)]; exact z.2.2.2.2.2.2.1, by show ua (τ 1) 8 _ 16 = ua A 8 _ 6; rw [ua_ne _ _ (by decide), ua_ne _ _ (by decide)]; exact z.2.2.2.2.2.2.2.1, by show _ = ua A 8 _ 7; rw [ua_ne _ _ (by decide)]; exact z.2.2.2.2.2.2.2.2⟩
theorem rel_view (hl : li A) (h : Rel9 ar b w0 A τ) (v : Int) : Rel9 ar b w0 (ua A 9 v) (sA τ 1 (ua (τ 1) 9 v)) := by
  have z : rlI A (τ 1) (τ 12 0) := h.i
  unfold rlI at z
  refine rel_c hl h (fun i hi => ua_ne _ _ (by omega)) ⟨ua_ne _ _ (by decide), ua_ne _ _ (by decide), ua_ne _ _ (by decide), ua_ne _ _ (by decide), ua_ne _ _ (by decide), ua_ne _ _ (by decide), ua_ne _ _ (by decide), by rw [ua_ne _ _ (by decide)]; exact Int.le_refl _⟩ ?_
  unfold rlI
  exact ⟨by show ua (τ 1) 9 _ 0 = ua A 9 _ 0; rw [ua_ne _ _ (by decide), ua_ne _ _ (by decide)]; exact z.1, by show ua (τ 1) 9 _ 8 = ua A 9 _ 8; rw [ua_ne _ _ (by decide), ua_ne _ _ (by decide)]; exact z.2.1, by show ua (τ 1) 9 _ 9 = ua A 9 _ 9; rw [ua_at, ua_at], by show ua (τ 1) 9 _ 10 = ua A 9 _ 13; rw [ua_ne _ _ (by decide), ua_ne _ _ (by decide)]; exact z.2.2.2.1, by show ua (τ 1) 9 _ 12 = ua A 9 _ 10; rw [ua_ne _ _ (by decide), ua_ne _ _ (by decide)]; exact z.2.2.2.2.1, by show ua (τ 1) 9 _ 13 = ua A 9 _ 11; rw [ua_ne _ _ (by decide), ua_ne _ _ (by decide)]; exact z.2.2.2.2.2.1, by show ua (τ 1) 9 _ 14 = ua A 9 _ 12; rw [ua_ne _ _ (by decide), ua_ne _ _ (by decide)]; exact z.2.2.2.2.2.2.1, by show ua (τ 1) 9 _ 16 = ua A 9 _ 6; rw [ua_ne _ _ (by decide), ua_ne _ _ (by decide)]; exact z.2.2.2.2.2.2.2.1, by show _ = ua A 9 _ 7; rw [ua_ne _ _ (by decide)]; exact z.2.2.2.2.2.2.2.2⟩
theorem rel_hands (hl : li A) (h : Rel9 ar b w0 A τ) (v : Int) : Rel9 ar b w0 (ua A 13 v) (sA τ 1 (ua (τ 1) 10 v)) := by
  have z : rlI A (τ 1) (τ 12 0) := h.i
  unfold rlI at z
  refine rel_c hl h (fun i hi => ua_ne _ _ (by omega)) ⟨ua_ne _ _ (by decide), ua_ne _ _ (by decide), ua_ne _ _ (by decide), ua_ne _ _ (by decide), ua_ne _ _ (by decide), ua_ne _ _ (by decide), ua_ne _ _ (by decide), by rw [ua_ne _ _ (by decide)]; exact Int.le_refl _⟩ ?_
  unfold rlI
  exact ⟨by show ua (τ 1) 10 _ 0 = ua A 13 _ 0; rw [ua_ne _ _ (by decide), ua_ne _ _ (by decide)]; exact z.1, by show ua (τ 1) 10 _ 8 = ua A 13 _ 8; rw [ua_ne _ _ (by decide), ua_ne _ _ (by decide)]; exact z.2.1, by show ua (τ 1) 10 _ 9 = ua A 13 _ 9; rw [ua_ne _ _ (by decide), ua_ne _ _ (by decide)]; exact z.2.2.1, by show ua (τ 1) 10 _ 10 = ua A 13 _ 13; rw [ua_at, ua_at], by show ua (τ 1) 10 _ 12 = ua A 13 _ 10; rw [ua_ne _ _ (by decide), ua_ne _ _ (by decide)]; exact z.2.2.2.2.1, by show ua (τ 1) 10 _ 13 = ua A 13 _ 11; rw [ua_ne _ _ (by decide), ua_ne _ _ (by decide)]; exact z.2.2.2.2.2.1, by show ua (τ 1) 10 _ 14 = ua A 13 _ 12; rw [ua_ne _ _ (by decide), ua_ne _ _ (by decide)]; exact z.2.2.2.2.2.2.1, by show ua (τ 1) 10 _ 16 = ua A 13 _ 6; rw [ua_ne _ _ (by decide), ua_ne _ _ (by decide)]; exact z.2.2.2.2.2.2.2.1, by show _ = ua A 13 _ 7; rw [ua_ne _ _ (by decide)]; exact z.2.2.2.2.2.2.2.2⟩
theorem rel_end (hl : li A) (h : Rel9 ar b w0 A τ) (v : Int) (hv : v ≤ A 10) : Rel9 ar b w0 (ua A 10 v) (sA τ 1 (ua (τ 1) 12 v)) := by
  have z : rlI A (τ 1) (τ 12 0) := h.i
  unfold rlI at z
  refine rel_c hl h (fun i hi => ua_ne _ _ (by omega)) ⟨ua_ne _ _ (by decide), ua_ne _ _ (by decide), ua_ne _ _ (by decide), ua_ne _ _ (by decide), ua_ne _ _ (by decide), ua_ne _ _ (by decide), ua_ne _ _ (by decide), by rw [ua_at]; exact hv⟩ ?_
  unfold rlI
  exact ⟨by show ua (τ 1) 12 _ 0 = ua A 10 _ 0; rw [ua_ne _ _ (by decide), ua_ne _ _ (by decide)]; exact z.1, by show ua (τ 1) 12 _ 8 = ua A 10 _ 8; rw [ua_ne _ _ (by decide), ua_ne _ _ (by decide)]; exact z.2.1, by show ua (τ 1) 12 _ 9 = ua A 10 _ 9; rw [ua_ne _ _ (by decide), ua_ne _ _ (by decide)]; exact z.2.2.1, by show ua (τ 1) 12 _ 10 = ua A 10 _ 13; rw [ua_ne _ _ (by decide), ua_ne _ _ (by decide)]; exact z.2.2.2.1, by show ua (τ 1) 12 _ 12 = ua A 10 _ 10; rw [ua_at, ua_at], by show ua (τ 1) 12 _ 13 = ua A 10 _ 11; rw [ua_ne _ _ (by decide), ua_ne _ _ (by decide)]; exact z.2.2.2.2.2.1, by show ua (τ 1) 12 _ 14 = ua A 10 _ 12; rw [ua_ne _ _ (by decide), ua_ne _ _ (by decide)]; exact z.2.2.2.2.2.2.1, by show ua (τ 1) 12 _ 16 = ua A 10 _ 6; rw [ua_ne _ _ (by decide), ua_ne _ _ (by decide)]; exact z.2.2.2.2.2.2.2.1, by show _ = ua A 10 _ 7; rw [ua_ne _ _ (by decide)]; exact z.2.2.2.2.2.2.2.2⟩
end RLS

