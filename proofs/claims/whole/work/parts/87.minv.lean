/-! the invariants of the state are kept -/
theorem li_c {A A' : Nat → Int} (e : ∀ i, (14 ≤ i ∧ i < 17) ∨ (800 ≤ i ∧ i < 1760) → A' i = A i) (h : li A) : li A' := by
  intro w hw
  obtain ⟨a, g⟩ := h w hw
  rw [e (14 + w) (by omega)]
  refine ⟨a, fun k hk => ?_⟩
  rw [e _ (by omega)]
  exact g k hk
theorem lj_c {A A' : Nat → Int} (e : ∀ i, (14 ≤ i ∧ i < 17) ∨ (800 ≤ i ∧ i < 1760) → A' i = A i) (hl : li A) (h : lj9 A) : lj9 A' := by
  intro w hw k hk
  rw [e (14 + w) (by omega)] at hk
  obtain ⟨a, g⟩ := hl w hw
  have gk := g k hk
  obtain ⟨h1, h2, h3⟩ := h w hw k hk
  rw [e (800 + 320 * w + 20 * k + 17) (by omega), e (800 + 320 * w + 20 * k + 18) (by omega), e (800 + 320 * w + 20 * k) (by omega)]
  refine ⟨h1, h2, fun t ht => ?_⟩
  rw [e (800 + 320 * w + 20 * k + 1 + 4 * t + 1) (by omega), e (800 + 320 * w + 20 * k + 1 + 4 * t + 2) (by omega), e (800 + 320 * w + 20 * k + 1 + 4 * t + 3) (by omega)]
  exact h3 t ht
theorem wi_c {A A' : Nat → Int} (h1 : A' 1 = A 1) (h0 : A 0 ≤ A' 0) (hm : A 1 ≤ 12) (e : ∀ i, 30 ≤ i → i < 78 → A' i = A i) (h : wi A) : wi A' := by
  intro k hk
  have q := h k (by omega)
  have w0 := e (30 + 4 * k + 0) (by omega) (by omega)
  have w1 := e (30 + 4 * k + 1) (by omega) (by omega)
  have w2 := e (30 + 4 * k + 2) (by omega) (by omega)
  have w3 := e (30 + 4 * k + 3) (by omega) (by omega)
  omega
theorem wi_n {A A' : Nat → Int} (kn : Nat) (hk : A 1 = (kn : Int)) (h1 : A' 1 = A 1 + 1) (h0 : A 0 ≤ A' 0) (e : ∀ i, 30 ≤ i → i < 30 + 4 * kn → A' i = A i) (h : wi A) (row : (0 ≤ A' (30 + 4 * kn + 0) ∧ A' (30 + 4 * kn + 0) ≤ A' 0 - 1) ∧ (0 ≤ A' (30 + 4 * kn + 1) ∧ A' (30 + 4 * kn + 1) ≤ A' 0 - 1) ∧ (1 ≤ A' (30 + 4 * kn + 2) ∧ A' (30 + 4 * kn + 2) ≤ 999) ∧ (1 ≤ A' (30 + 4 * kn + 3) ∧ A' (30 + 4 * kn + 3) ≤ 3)) : wi A' := by
  intro k hk2
  by_cases ck : k = kn
  · subst ck; exact row
  · have q := h k (by omega)
    have w0 := e (30 + 4 * k + 0) (by omega) (by omega)
    have w1 := e (30 + 4 * k + 1) (by omega) (by omega)
    have w2 := e (30 + 4 * k + 2) (by omega) (by omega)
    have w3 := e (30 + 4 * k + 3) (by omega) (by omega)
    omega
theorem si_c {A A' : Nat → Int} (h1 : A' 2 = A 2) (h0 : A 0 ≤ A' 0) (hm : A 2 ≤ 8) (e : ∀ i, 80 ≤ i → i < 112 → A' i = A i) (h : si A) : si A' := by
  intro k hk
  have q := h k (by omega)
  have w0 := e (80 + 4 * k + 0) (by omega) (by omega)
  have w1 := e (80 + 4 * k + 1) (by omega) (by omega)
  have w2 := e (80 + 4 * k + 2) (by omega) (by omega)
  have w3 := e (80 + 4 * k + 3) (by omega) (by omega)
  omega
theorem si_n {A A' : Nat → Int} (kn : Nat) (hk : A 2 = (kn : Int)) (h1 : A' 2 = A 2 + 1) (h0 : A 0 ≤ A' 0) (e : ∀ i, 80 ≤ i → i < 80 + 4 * kn → A' i = A i) (h : si A) (row : (0 ≤ A' (80 + 4 * kn + 0) ∧ A' (80 + 4 * kn + 0) ≤ A' 0 - 1) ∧ (0 ≤ A' (80 + 4 * kn + 1) ∧ A' (80 + 4 * kn + 1) ≤ 3) ∧ (1 ≤ A' (80 + 4 * kn + 2) ∧ A' (80 + 4 * kn + 2) ≤ 99) ∧ (0 ≤ A' (80 + 4 * kn + 3) ∧ A' (80 + 4 * kn + 3) ≤ 255)) : si A' := by
  intro k hk2
  by_cases ck : k = kn
  · subst ck; exact row
  · have q := h k (by omega)
    have w0 := e (80 + 4 * k + 0) (by omega) (by omega)
    have w1 := e (80 + 4 * k + 1) (by omega) (by omega)
    have w2 := e (80 + 4 * k + 2) (by omega) (by omega)
    have w3 := e (80 + 4 * k + 3) (by omega) (by omega)
    omega
theorem mI_c {A A' : Nat → Int} (h1 : A' 3 = A 3) (h0 : A 0 ≤ A' 0) (hm : A 3 ≤ 40) (e : ∀ i, 120 ≤ i → i < 280 → A' i = A i) (h : mI A) : mI A' := by
  intro k hk
  have q := h k (by omega)
  have w0 := e (120 + 4 * k + 0) (by omega) (by omega)
  have w1 := e (120 + 4 * k + 1) (by omega) (by omega)
  have w2 := e (120 + 4 * k + 2) (by omega) (by omega)
  have w3 := e (120 + 4 * k + 3) (by omega) (by omega)
  omega
theorem mI_n {A A' : Nat → Int} (kn : Nat) (hk : A 3 = (kn : Int)) (h1 : A' 3 = A 3 + 1) (h0 : A 0 ≤ A' 0) (e : ∀ i, 120 ≤ i → i < 120 + 4 * kn → A' i = A i) (h : mI A) (row : (0 ≤ A' (120 + 4 * kn + 0) ∧ A' (120 + 4 * kn + 0) ≤ 7) ∧ (-1 ≤ A' (120 + 4 * kn + 1) ∧ A' (120 + 4 * kn + 1) ≤ 2) ∧ (0 ≤ A' (120 + 4 * kn + 2) ∧ A' (120 + 4 * kn + 2) ≤ 199) ∧ (0 ≤ A' (120 + 4 * kn + 3) ∧ A' (120 + 4 * kn + 3) ≤ 199)) : mI A' := by
  intro k hk2
  by_cases ck : k = kn
  · subst ck; exact row
  · have q := h k (by omega)
    have w0 := e (120 + 4 * k + 0) (by omega) (by omega)
    have w1 := e (120 + 4 * k + 1) (by omega) (by omega)
    have w2 := e (120 + 4 * k + 2) (by omega) (by omega)
    have w3 := e (120 + 4 * k + 3) (by omega) (by omega)
    omega
theorem hi_c {A A' : Nat → Int} (h1 : A' 4 = A 4) (h0 : A 0 ≤ A' 0) (hm : A 4 ≤ 24) (e : ∀ i, 280 ≤ i → i < 472 → A' i = A i) (h : hi A) : hi A' := by
  intro k hk
  have q := h k (by omega)
  have w0 := e (280 + 8 * k + 0) (by omega) (by omega)
  have w1 := e (280 + 8 * k + 1) (by omega) (by omega)
  have w2 := e (280 + 8 * k + 2) (by omega) (by omega)
  have w3 := e (280 + 8 * k + 3) (by omega) (by omega)
  have w4 := e (280 + 8 * k + 4) (by omega) (by omega)
  have w5 := e (280 + 8 * k + 5) (by omega) (by omega)
  have w6 := e (280 + 8 * k + 6) (by omega) (by omega)
  have w7 := e (280 + 8 * k + 7) (by omega) (by omega)
  omega
theorem hi_n {A A' : Nat → Int} (kn : Nat) (hk : A 4 = (kn : Int)) (h1 : A' 4 = A 4 + 1) (h0 : A 0 ≤ A' 0) (e : ∀ i, 280 ≤ i → i < 280 + 8 * kn → A' i = A i) (h : hi A) (row : (0 ≤ A' (280 + 8 * kn + 0) ∧ A' (280 + 8 * kn + 0) ≤ 2) ∧ (0 ≤ A' (280 + 8 * kn + 1) ∧ A' (280 + 8 * kn + 1) ≤ 199) ∧ (0 ≤ A' (280 + 8 * kn + 2) ∧ A' (280 + 8 * kn + 2) + A' (280 + 8 * kn + 3) ≤ 48) ∧ (1 ≤ A' (280 + 8 * kn + 3) ∧ A' (280 + 8 * kn + 3) ≤ 4) ∧ (0 ≤ A' (280 + 8 * kn + 4) ∧ A' (280 + 8 * kn + 4) ≤ A' 0 - 1) ∧ (0 ≤ A' (280 + 8 * kn + 5) ∧ A' (280 + 8 * kn + 5) ≤ 7) ∧ (0 ≤ A' (280 + 8 * kn + 6) ∧ A' (280 + 8 * kn + 6) ≤ 255) ∧ (0 ≤ A' (280 + 8 * kn + 7) ∧ A' (280 + 8 * kn + 7) ≤ 199)) : hi A' := by
  intro k hk2
  by_cases ck : k = kn
  · subst ck; exact row
  · have q := h k (by omega)
    have w0 := e (280 + 8 * k + 0) (by omega) (by omega)
    have w1 := e (280 + 8 * k + 1) (by omega) (by omega)
    have w2 := e (280 + 8 * k + 2) (by omega) (by omega)
    have w3 := e (280 + 8 * k + 3) (by omega) (by omega)
    have w4 := e (280 + 8 * k + 4) (by omega) (by omega)
    have w5 := e (280 + 8 * k + 5) (by omega) (by omega)
    have w6 := e (280 + 8 * k + 6) (by omega) (by omega)
    have w7 := e (280 + 8 * k + 7) (by omega) (by omega)
    omega
theorem bI_c {A A' : Nat → Int} (h1 : A' 5 = A 5) (h0 : A 0 ≤ A' 0) (hm : A 5 ≤ 24) (e : ∀ i, 480 ≤ i → i < 624 → A' i = A i) (h : bI A) : bI A' := by
  intro k hk
  have q := h k (by omega)
  have w0 := e (480 + 6 * k + 0) (by omega) (by omega)
  have w1 := e (480 + 6 * k + 1) (by omega) (by omega)
  have w2 := e (480 + 6 * k + 2) (by omega) (by omega)
  have w3 := e (480 + 6 * k + 3) (by omega) (by omega)
  have w4 := e (480 + 6 * k + 4) (by omega) (by omega)
  have w5 := e (480 + 6 * k + 5) (by omega) (by omega)
  omega
theorem bI_n {A A' : Nat → Int} (kn : Nat) (hk : A 5 = (kn : Int)) (h1 : A' 5 = A 5 + 1) (h0 : A 0 ≤ A' 0) (e : ∀ i, 480 ≤ i → i < 480 + 6 * kn → A' i = A i) (h : bI A) (row : (-1 ≤ A' (480 + 6 * kn + 0) ∧ A' (480 + 6 * kn + 0) ≤ 7) ∧ (0 ≤ A' (480 + 6 * kn + 1) ∧ A' (480 + 6 * kn + 1) ≤ 199) ∧ (0 ≤ A' (480 + 6 * kn + 2) ∧ A' (480 + 6 * kn + 2) ≤ 47) ∧ (0 ≤ A' (480 + 6 * kn + 3) ∧ A' (480 + 6 * kn + 3) ≤ 47) ∧ (0 ≤ A' (480 + 6 * kn + 4) ∧ A' (480 + 6 * kn + 4) ≤ 9) ∧ (0 ≤ A' (480 + 6 * kn + 5) ∧ A' (480 + 6 * kn + 5) ≤ 199)) : bI A' := by
  intro k hk2
  by_cases ck : k = kn
  · subst ck; exact row
  · have q := h k (by omega)
    have w0 := e (480 + 6 * k + 0) (by omega) (by omega)
    have w1 := e (480 + 6 * k + 1) (by omega) (by omega)
    have w2 := e (480 + 6 * k + 2) (by omega) (by omega)
    have w3 := e (480 + 6 * k + 3) (by omega) (by omega)
    have w4 := e (480 + 6 * k + 4) (by omega) (by omega)
    have w5 := e (480 + 6 * k + 5) (by omega) (by omega)
    omega
theorem ci_c {A A' : Nat → Int} (h1 : A' 6 = A 6) (hm : A 6 ≤ 40) (e : ∀ i, 630 ≤ i → i < 750 → A' i = A i) (h : ci A) : ci A' := by
  intro k hk
  have q := h k (by omega)
  have w0 := e (630 + 3 * k) (by omega) (by omega)
  have w1 := e (630 + 3 * k + 1) (by omega) (by omega)
  have w2 := e (630 + 3 * k + 2) (by omega) (by omega)
  omega
theorem ci_n {A A' : Nat → Int} (kn : Nat) (hk : A 6 = (kn : Int)) (h1 : A' 6 = A 6 + 1) (e : ∀ i, 630 ≤ i → i < 630 + 3 * kn → A' i = A i) (h : ci A) (row : (0 ≤ A' (630 + 3 * kn) ∧ A' (630 + 3 * kn) ≤ 7) ∧ (1 ≤ A' (630 + 3 * kn + 1) ∧ A' (630 + 3 * kn + 1) ≤ 999) ∧ (0 ≤ A' (630 + 3 * kn + 2) ∧ A' (630 + 3 * kn + 2) ≤ A' (630 + 3 * kn + 1))) : ci A' := by
  intro k hk2
  by_cases ck : k = kn
  · subst ck; exact row
  · have q := h k (by omega)
    have w0 := e (630 + 3 * k) (by omega) (by omega)
    have w1 := e (630 + 3 * k + 1) (by omega) (by omega)
    have w2 := e (630 + 3 * k + 2) (by omega) (by omega)
    omega
theorem pi_c {A A' : Nat → Int} (h1 : A' 7 = A 7) (hm : A 7 ≤ 6) (e : ∀ i, 750 ≤ i → i < 792 → A' i = A i) (h : piI A) : piI A' := by
  intro k hk
  have q := h k (by omega)
  refine ⟨by rw [e _ (by omega) (by omega)]; exact q.1, fun t ht => by rw [e _ (by omega) (by omega)]; exact q.2 t ht⟩
theorem pi_n {A A' : Nat → Int} (kn : Nat) (hk : A 7 = (kn : Int)) (h1 : A' 7 = A 7 + 1) (e : ∀ i, 750 ≤ i → i < 750 + 7 * kn → A' i = A i) (h : piI A) (row : (0 ≤ A' (750 + 7 * kn) ∧ A' (750 + 7 * kn) ≤ 7) ∧ ∀ t : Nat, t < 6 → 0 ≤ A' (750 + 7 * kn + 1 + t) ∧ A' (750 + 7 * kn + 1 + t) ≤ 9999) : piI A' := by
  intro k hk2
  by_cases ck : k = kn
  · subst ck; exact row
  · have q := h k (by omega)
    refine ⟨by rw [e _ (by omega) (by omega)]; exact q.1, fun t ht => by rw [e _ (by omega) (by omega)]; exact q.2 t ht⟩
/-- all that is always so of the state -/
def Iv9 (A : Nat → Int) : Prop := cn A ∧ wi A ∧ si A ∧ mI A ∧ hi A ∧ bI A ∧ ci A ∧ piI A ∧ li A ∧ lj9 A
theorem Iv9_c {A A' : Nat → Int} (e : ∀ i, i < 1760 → A' i = A i) (h : Iv9 A) : Iv9 A' := by
  obtain ⟨hc, h1, h2, h3, h4, h5, h6, h7, h8, h9⟩ := h
  have e0 := e 0 (by omega)
  have hc' : cn A' := by
    show (0 ≤ A' 0 ∧ A' 0 ≤ 8) ∧ _
    rw [e 0 (by omega), e 1 (by omega), e 2 (by omega), e 3 (by omega), e 4 (by omega), e 5 (by omega), e 6 (by omega), e 7 (by omega), e 8 (by omega), e 9 (by omega), e 10 (by omega), e 13 (by omega)]
    exact hc
  exact ⟨hc', wi_c (e 1 (by omega)) (by omega) (by omega) (fun i a b => e i (by omega)) h1, si_c (e 2 (by omega)) (by omega) (by omega) (fun i a b => e i (by omega)) h2, mI_c (e 3 (by omega)) (by omega) (by omega) (fun i a b => e i (by omega)) h3, hi_c (e 4 (by omega)) (by omega) (by omega) (fun i a b => e i (by omega)) h4, bI_c (e 5 (by omega)) (by omega) (by omega) (fun i a b => e i (by omega)) h5, ci_c (e 6 (by omega)) (by omega) (fun i a b => e i (by omega)) h6, pi_c (e 7 (by omega)) (by omega) (fun i a b => e i (by omega)) h7, li_c (fun i a => e i (by omega)) h8, lj_c (fun i a => e i (by omega)) h8 h9⟩
theorem iv_town {A : Nat → Int}  (h : Iv9 A) (ok : ¬ A 0 = 8) : Iv9 (ua A 0 (A 0 + 1)) := by
  obtain ⟨hc, h1, h2, h3, h4, h5, h6, h7, h8, h9⟩ := h
  have e : ∀ i, (¬ i = 0) → (ua A 0 (A 0 + 1)) i = A i := by intro i hi; exact ua_ne _ _ hi
  have v0 : (ua A 0 (A 0 + 1)) (0) = (A 0 + 1) := by exact ua_at _ _ _
  generalize (ua A 0 (A 0 + 1)) = A' at e v0 ⊢
  have c1 := e 1 (by omega)
  have c2 := e 2 (by omega)
  have c3 := e 3 (by omega)
  have c4 := e 4 (by omega)
  have c5 := e 5 (by omega)
  have c6 := e 6 (by omega)
  have c7 := e 7 (by omega)
  have c8 := e 8 (by omega)
  have c9 := e 9 (by omega)
  have c10 := e 10 (by omega)
  have c13 := e 13 (by omega)
  have hc' : cn A' := by
    show (0 ≤ A' 0 ∧ A' 0 ≤ 8) ∧ _
    omega
  exact ⟨hc', wi_c (by omega) (by omega) (by omega) (fun i a b => e i (by omega)) h1, si_c (by omega) (by omega) (by omega) (fun i a b => e i (by omega)) h2, mI_c (by omega) (by omega) (by omega) (fun i a b => e i (by omega)) h3, hi_c (by omega) (by omega) (by omega) (fun i a b => e i (by omega)) h4, bI_c (by omega) (by omega) (by omega) (fun i a b => e i (by omega)) h5, ci_c (by omega) (by omega) (fun i a b => e i (by omega)) h6, pi_c (by omega) (by omega) (fun i a b => e i (by omega)) h7, li_c (fun i a => e i (by omega)) h8, lj_c (fun i a => e i (by omega)) h8 h9⟩
theorem iv_day {A : Nat → Int} (d : Int) (h : Iv9 A) (ok : A 8 ≤ d ∧ d ≤ 199) : Iv9 (ua A 8 d) := by
  obtain ⟨hc, h1, h2, h3, h4, h5, h6, h7, h8, h9⟩ := h
  have e : ∀ i, (¬ i = 8) → (ua A 8 d) i = A i := by intro i hi; exact ua_ne _ _ hi
  have v0 : (ua A 8 d) (8) = d := by exact ua_at _ _ _
  generalize (ua A 8 d) = A' at e v0 ⊢
  have c0 := e 0 (by omega)
  have c1 := e 1 (by omega)
  have c2 := e 2 (by omega)
  have c3 := e 3 (by omega)
  have c4 := e 4 (by omega)
  have c5 := e 5 (by omega)
  have c6 := e 6 (by omega)
  have c7 := e 7 (by omega)
  have c9 := e 9 (by omega)
  have c10 := e 10 (by omega)
  have c13 := e 13 (by omega)
  have hc' : cn A' := by
    show (0 ≤ A' 0 ∧ A' 0 ≤ 8) ∧ _
    omega
  exact ⟨hc', wi_c (by omega) (by omega) (by omega) (fun i a b => e i (by omega)) h1, si_c (by omega) (by omega) (by omega) (fun i a b => e i (by omega)) h2, mI_c (by omega) (by omega) (by omega) (fun i a b => e i (by omega)) h3, hi_c (by omega) (by omega) (by omega) (fun i a b => e i (by omega)) h4, bI_c (by omega) (by omega) (by omega) (fun i a b => e i (by omega)) h5, ci_c (by omega) (by omega) (fun i a b => e i (by omega)) h6, pi_c (by omega) (by omega) (fun i a b => e i (by omega)) h7, li_c (fun i a => e i (by omega)) h8, lj_c (fun i a => e i (by omega)) h8 h9⟩
theorem iv_view {A : Nat → Int} (d : Int) (h : Iv9 A) (ok : d = -1 ∨ (0 ≤ d ∧ d ≤ A 8)) : Iv9 (ua A 9 d) := by
  obtain ⟨hc, h1, h2, h3, h4, h5, h6, h7, h8, h9⟩ := h
  have e : ∀ i, (¬ i = 9) → (ua A 9 d) i = A i := by intro i hi; exact ua_ne _ _ hi
  have v0 : (ua A 9 d) (9) = d := by exact ua_at _ _ _
  generalize (ua A 9 d) = A' at e v0 ⊢
  have c0 := e 0 (by omega)
  have c1 := e 1 (by omega)
  have c2 := e 2 (by omega)
  have c3 := e 3 (by omega)
  have c4 := e 4 (by omega)
  have c5 := e 5 (by omega)
  have c6 := e 6 (by omega)
  have c7 := e 7 (by omega)
  have c8 := e 8 (by omega)
  have c10 := e 10 (by omega)
  have c13 := e 13 (by omega)
  have hc' : cn A' := by
    show (0 ≤ A' 0 ∧ A' 0 ≤ 8) ∧ _
    omega
  exact ⟨hc', wi_c (by omega) (by omega) (by omega) (fun i a b => e i (by omega)) h1, si_c (by omega) (by omega) (by omega) (fun i a b => e i (by omega)) h2, mI_c (by omega) (by omega) (by omega) (fun i a b => e i (by omega)) h3, hi_c (by omega) (by omega) (by omega) (fun i a b => e i (by omega)) h4, bI_c (by omega) (by omega) (by omega) (fun i a b => e i (by omega)) h5, ci_c (by omega) (by omega) (fun i a b => e i (by omega)) h6, pi_c (by omega) (by omega) (fun i a b => e i (by omega)) h7, li_c (fun i a => e i (by omega)) h8, lj_c (fun i a => e i (by omega)) h8 h9⟩
theorem iv_hands {A : Nat → Int} (d : Int) (h : Iv9 A) (ok : 1 ≤ d ∧ d ≤ 3) : Iv9 (ua A 13 d) := by
  obtain ⟨hc, h1, h2, h3, h4, h5, h6, h7, h8, h9⟩ := h
  have e : ∀ i, (¬ i = 13) → (ua A 13 d) i = A i := by intro i hi; exact ua_ne _ _ hi
  have v0 : (ua A 13 d) (13) = d := by exact ua_at _ _ _
  generalize (ua A 13 d) = A' at e v0 ⊢
  have c0 := e 0 (by omega)
  have c1 := e 1 (by omega)
  have c2 := e 2 (by omega)
  have c3 := e 3 (by omega)
  have c4 := e 4 (by omega)
  have c5 := e 5 (by omega)
  have c6 := e 6 (by omega)
  have c7 := e 7 (by omega)
  have c8 := e 8 (by omega)
  have c9 := e 9 (by omega)
  have c10 := e 10 (by omega)
  have hc' : cn A' := by
    show (0 ≤ A' 0 ∧ A' 0 ≤ 8) ∧ _
    omega
  exact ⟨hc', wi_c (by omega) (by omega) (by omega) (fun i a b => e i (by omega)) h1, si_c (by omega) (by omega) (by omega) (fun i a b => e i (by omega)) h2, mI_c (by omega) (by omega) (by omega) (fun i a b => e i (by omega)) h3, hi_c (by omega) (by omega) (by omega) (fun i a b => e i (by omega)) h4, bI_c (by omega) (by omega) (by omega) (fun i a b => e i (by omega)) h5, ci_c (by omega) (by omega) (fun i a b => e i (by omega)) h6, pi_c (by omega) (by omega) (fun i a b => e i (by omega)) h7, li_c (fun i a => e i (by omega)) h8, lj_c (fun i a => e i (by omega)) h8 h9⟩
theorem iv_end {A : Nat → Int} (d : Int) (h : Iv9 A) (ok : 0 ≤ d ∧ d ≤ A 10) : Iv9 (ua A 10 d) := by
  obtain ⟨hc, h1, h2, h3, h4, h5, h6, h7, h8, h9⟩ := h
  have e : ∀ i, (¬ i = 10) → (ua A 10 d) i = A i := by intro i hi; exact ua_ne _ _ hi
  have v0 : (ua A 10 d) (10) = d := by exact ua_at _ _ _
  generalize (ua A 10 d) = A' at e v0 ⊢
  have c0 := e 0 (by omega)
  have c1 := e 1 (by omega)
  have c2 := e 2 (by omega)
  have c3 := e 3 (by omega)
  have c4 := e 4 (by omega)
  have c5 := e 5 (by omega)
  have c6 := e 6 (by omega)
  have c7 := e 7 (by omega)
  have c8 := e 8 (by omega)
  have c9 := e 9 (by omega)
  have c13 := e 13 (by omega)
  have hc' : cn A' := by
    show (0 ≤ A' 0 ∧ A' 0 ≤ 8) ∧ _
    omega
  exact ⟨hc', wi_c (by omega) (by omega) (by omega) (fun i a b => e i (by omega)) h1, si_c (by omega) (by omega) (by omega) (fun i a b => e i (by omega)) h2, mI_c (by omega) (by omega) (by omega) (fun i a b => e i (by omega)) h3, hi_c (by omega) (by omega) (by omega) (fun i a b => e i (by omega)) h4, bI_c (by omega) (by omega) (by omega) (fun i a b => e i (by omega)) h5, ci_c (by omega) (by omega) (fun i a b => e i (by omega)) h6, pi_c (by omega) (by omega) (fun i a b => e i (by omega)) h7, li_c (fun i a => e i (by omega)) h8, lj_c (fun i a => e i (by omega)) h8 h9⟩
theorem iv_wire {A : Nat → Int} (ta : Int) (tz : Int) (mi : Int) (cr : Int) (kn : Nat) (hk : A 1 = (kn : Int)) (h : Iv9 A) (ok : ok_wire A ta tz mi cr) : Iv9 (ua (ua (ua (ua (ua A (30 + 4 * kn) ta) (30 + 4 * kn + 1) tz) (30 + 4 * kn + 2) mi) (30 + 4 * kn + 3) cr) 1 (A 1 + 1)) := by
  obtain ⟨hc, h1, h2, h3, h4, h5, h6, h7, h8, h9⟩ := h
  have e : ∀ i, (¬ i = 1 ∧ (i < 30 + 4 * kn ∨ 30 + 4 * kn + 3 < i)) → (ua (ua (ua (ua (ua A (30 + 4 * kn) ta) (30 + 4 * kn + 1) tz) (30 + 4 * kn + 2) mi) (30 + 4 * kn + 3) cr) 1 (A 1 + 1)) i = A i := by intro i hi; rw [ua_ne _ _ (by omega), ua_ne _ _ (by omega), ua_ne _ _ (by omega), ua_ne _ _ (by omega), ua_ne _ _ (by omega)]
  have v0 : (ua (ua (ua (ua (ua A (30 + 4 * kn) ta) (30 + 4 * kn + 1) tz) (30 + 4 * kn + 2) mi) (30 + 4 * kn + 3) cr) 1 (A 1 + 1)) (30 + 4 * kn + 0) = ta := by rw [ua_ne _ _ (by omega), ua_ne _ _ (by omega), ua_ne _ _ (by omega), ua_ne _ _ (by omega)]; exact ua_at _ _ _
  have v1 : (ua (ua (ua (ua (ua A (30 + 4 * kn) ta) (30 + 4 * kn + 1) tz) (30 + 4 * kn + 2) mi) (30 + 4 * kn + 3) cr) 1 (A 1 + 1)) (30 + 4 * kn + 1) = tz := by rw [ua_ne _ _ (by omega), ua_ne _ _ (by omega), ua_ne _ _ (by omega), ua_at]
  have v2 : (ua (ua (ua (ua (ua A (30 + 4 * kn) ta) (30 + 4 * kn + 1) tz) (30 + 4 * kn + 2) mi) (30 + 4 * kn + 3) cr) 1 (A 1 + 1)) (30 + 4 * kn + 2) = mi := by rw [ua_ne _ _ (by omega), ua_ne _ _ (by omega), ua_at]
  have v3 : (ua (ua (ua (ua (ua A (30 + 4 * kn) ta) (30 + 4 * kn + 1) tz) (30 + 4 * kn + 2) mi) (30 + 4 * kn + 3) cr) 1 (A 1 + 1)) (30 + 4 * kn + 3) = cr := by rw [ua_ne _ _ (by omega), ua_at]
  have v4 : (ua (ua (ua (ua (ua A (30 + 4 * kn) ta) (30 + 4 * kn + 1) tz) (30 + 4 * kn + 2) mi) (30 + 4 * kn + 3) cr) 1 (A 1 + 1)) (1) = A 1 + 1 := by exact ua_at _ _ _
  generalize (ua (ua (ua (ua (ua A (30 + 4 * kn) ta) (30 + 4 * kn + 1) tz) (30 + 4 * kn + 2) mi) (30 + 4 * kn + 3) cr) 1 (A 1 + 1)) = A' at e v0 v1 v2 v3 v4 ⊢
  have c0 := e 0 (by omega)
  have c2 := e 2 (by omega)
  have c3 := e 3 (by omega)
  have c4 := e 4 (by omega)
  have c5 := e 5 (by omega)
  have c6 := e 6 (by omega)
  have c7 := e 7 (by omega)
  have c8 := e 8 (by omega)
  have c9 := e 9 (by omega)
  have c10 := e 10 (by omega)
  have c13 := e 13 (by omega)
  have hc' : cn A' := by
    show (0 ≤ A' 0 ∧ A' 0 ≤ 8) ∧ _
    omega
  exact ⟨hc', wi_n kn hk (by omega) (by omega) (fun i a b => e i (by omega)) h1 (by omega), si_c (by omega) (by omega) (by omega) (fun i a b => e i (by omega)) h2, mI_c (by omega) (by omega) (by omega) (fun i a b => e i (by omega)) h3, hi_c (by omega) (by omega) (by omega) (fun i a b => e i (by omega)) h4, bI_c (by omega) (by omega) (by omega) (fun i a b => e i (by omega)) h5, ci_c (by omega) (by omega) (fun i a b => e i (by omega)) h6, pi_c (by omega) (by omega) (fun i a b => e i (by omega)) h7, li_c (fun i a => e i (by omega)) h8, lj_c (fun i a => e i (by omega)) h8 h9⟩
theorem iv_station {A : Nat → Int} (tw : Int) (zn : Int) (pw : Int) (kn : Nat) (hk : A 2 = (kn : Int)) (h : Iv9 A) (ok : ok_station A tw zn pw) : Iv9 (ua (ua (ua (ua (ua A (80 + 4 * kn) tw) (80 + 4 * kn + 1) zn) (80 + 4 * kn + 2) pw) (80 + 4 * kn + 3) 0) 2 (A 2 + 1)) := by
  obtain ⟨hc, h1, h2, h3, h4, h5, h6, h7, h8, h9⟩ := h
  have e : ∀ i, (¬ i = 2 ∧ (i < 80 + 4 * kn ∨ 80 + 4 * kn + 3 < i)) → (ua (ua (ua (ua (ua A (80 + 4 * kn) tw) (80 + 4 * kn + 1) zn) (80 + 4 * kn + 2) pw) (80 + 4 * kn + 3) 0) 2 (A 2 + 1)) i = A i := by intro i hi; rw [ua_ne _ _ (by omega), ua_ne _ _ (by omega), ua_ne _ _ (by omega), ua_ne _ _ (by omega), ua_ne _ _ (by omega)]
  have v0 : (ua (ua (ua (ua (ua A (80 + 4 * kn) tw) (80 + 4 * kn + 1) zn) (80 + 4 * kn + 2) pw) (80 + 4 * kn + 3) 0) 2 (A 2 + 1)) (80 + 4 * kn + 0) = tw := by rw [ua_ne _ _ (by omega), ua_ne _ _ (by omega), ua_ne _ _ (by omega), ua_ne _ _ (by omega)]; exact ua_at _ _ _
  have v1 : (ua (ua (ua (ua (ua A (80 + 4 * kn) tw) (80 + 4 * kn + 1) zn) (80 + 4 * kn + 2) pw) (80 + 4 * kn + 3) 0) 2 (A 2 + 1)) (80 + 4 * kn + 1) = zn := by rw [ua_ne _ _ (by omega), ua_ne _ _ (by omega), ua_ne _ _ (by omega), ua_at]
  have v2 : (ua (ua (ua (ua (ua A (80 + 4 * kn) tw) (80 + 4 * kn + 1) zn) (80 + 4 * kn + 2) pw) (80 + 4 * kn + 3) 0) 2 (A 2 + 1)) (80 + 4 * kn + 2) = pw := by rw [ua_ne _ _ (by omega), ua_ne _ _ (by omega), ua_at]
  have v3 : (ua (ua (ua (ua (ua A (80 + 4 * kn) tw) (80 + 4 * kn + 1) zn) (80 + 4 * kn + 2) pw) (80 + 4 * kn + 3) 0) 2 (A 2 + 1)) (80 + 4 * kn + 3) = 0 := by rw [ua_ne _ _ (by omega), ua_at]
  have v4 : (ua (ua (ua (ua (ua A (80 + 4 * kn) tw) (80 + 4 * kn + 1) zn) (80 + 4 * kn + 2) pw) (80 + 4 * kn + 3) 0) 2 (A 2 + 1)) (2) = A 2 + 1 := by exact ua_at _ _ _
  generalize (ua (ua (ua (ua (ua A (80 + 4 * kn) tw) (80 + 4 * kn + 1) zn) (80 + 4 * kn + 2) pw) (80 + 4 * kn + 3) 0) 2 (A 2 + 1)) = A' at e v0 v1 v2 v3 v4 ⊢
  have c0 := e 0 (by omega)
  have c1 := e 1 (by omega)
  have c3 := e 3 (by omega)
  have c4 := e 4 (by omega)
  have c5 := e 5 (by omega)
  have c6 := e 6 (by omega)
  have c7 := e 7 (by omega)
  have c8 := e 8 (by omega)
  have c9 := e 9 (by omega)
  have c10 := e 10 (by omega)
  have c13 := e 13 (by omega)
  have hc' : cn A' := by
    show (0 ≤ A' 0 ∧ A' 0 ≤ 8) ∧ _
    omega
  exact ⟨hc', wi_c (by omega) (by omega) (by omega) (fun i a b => e i (by omega)) h1, si_n kn hk (by omega) (by omega) (fun i a b => e i (by omega)) h2 (by omega), mI_c (by omega) (by omega) (by omega) (fun i a b => e i (by omega)) h3, hi_c (by omega) (by omega) (by omega) (fun i a b => e i (by omega)) h4, bI_c (by omega) (by omega) (by omega) (fun i a b => e i (by omega)) h5, ci_c (by omega) (by omega) (fun i a b => e i (by omega)) h6, pi_c (by omega) (by omega) (fun i a b => e i (by omega)) h7, li_c (fun i a => e i (by omega)) h8, lj_c (fun i a => e i (by omega)) h8 h9⟩
theorem iv_join {A : Nat → Int} (st : Int) (nw : Int) (fd : Int) (kn : Nat) (hk : A 3 = (kn : Int)) (h : Iv9 A) (ok : ok_join A st nw fd) : Iv9 (ua (ua (ua (ua (ua A (120 + 4 * kn) st) (120 + 4 * kn + 1) nw) (120 + 4 * kn + 2) fd) (120 + 4 * kn + 3) (A 8)) 3 (A 3 + 1)) := by
  obtain ⟨hc, h1, h2, h3, h4, h5, h6, h7, h8, h9⟩ := h
  have e : ∀ i, (¬ i = 3 ∧ (i < 120 + 4 * kn ∨ 120 + 4 * kn + 3 < i)) → (ua (ua (ua (ua (ua A (120 + 4 * kn) st) (120 + 4 * kn + 1) nw) (120 + 4 * kn + 2) fd) (120 + 4 * kn + 3) (A 8)) 3 (A 3 + 1)) i = A i := by intro i hi; rw [ua_ne _ _ (by omega), ua_ne _ _ (by omega), ua_ne _ _ (by omega), ua_ne _ _ (by omega), ua_ne _ _ (by omega)]
  have v0 : (ua (ua (ua (ua (ua A (120 + 4 * kn) st) (120 + 4 * kn + 1) nw) (120 + 4 * kn + 2) fd) (120 + 4 * kn + 3) (A 8)) 3 (A 3 + 1)) (120 + 4 * kn + 0) = st := by rw [ua_ne _ _ (by omega), ua_ne _ _ (by omega), ua_ne _ _ (by omega), ua_ne _ _ (by omega)]; exact ua_at _ _ _
  have v1 : (ua (ua (ua (ua (ua A (120 + 4 * kn) st) (120 + 4 * kn + 1) nw) (120 + 4 * kn + 2) fd) (120 + 4 * kn + 3) (A 8)) 3 (A 3 + 1)) (120 + 4 * kn + 1) = nw := by rw [ua_ne _ _ (by omega), ua_ne _ _ (by omega), ua_ne _ _ (by omega), ua_at]
  have v2 : (ua (ua (ua (ua (ua A (120 + 4 * kn) st) (120 + 4 * kn + 1) nw) (120 + 4 * kn + 2) fd) (120 + 4 * kn + 3) (A 8)) 3 (A 3 + 1)) (120 + 4 * kn + 2) = fd := by rw [ua_ne _ _ (by omega), ua_ne _ _ (by omega), ua_at]
  have v3 : (ua (ua (ua (ua (ua A (120 + 4 * kn) st) (120 + 4 * kn + 1) nw) (120 + 4 * kn + 2) fd) (120 + 4 * kn + 3) (A 8)) 3 (A 3 + 1)) (120 + 4 * kn + 3) = (A 8) := by rw [ua_ne _ _ (by omega), ua_at]
  have v4 : (ua (ua (ua (ua (ua A (120 + 4 * kn) st) (120 + 4 * kn + 1) nw) (120 + 4 * kn + 2) fd) (120 + 4 * kn + 3) (A 8)) 3 (A 3 + 1)) (3) = A 3 + 1 := by exact ua_at _ _ _
  generalize (ua (ua (ua (ua (ua A (120 + 4 * kn) st) (120 + 4 * kn + 1) nw) (120 + 4 * kn + 2) fd) (120 + 4 * kn + 3) (A 8)) 3 (A 3 + 1)) = A' at e v0 v1 v2 v3 v4 ⊢
  have c0 := e 0 (by omega)
  have c1 := e 1 (by omega)
  have c2 := e 2 (by omega)
  have c4 := e 4 (by omega)
  have c5 := e 5 (by omega)
  have c6 := e 6 (by omega)
  have c7 := e 7 (by omega)
  have c8 := e 8 (by omega)
  have c9 := e 9 (by omega)
  have c10 := e 10 (by omega)
  have c13 := e 13 (by omega)
  have hc' : cn A' := by
    show (0 ≤ A' 0 ∧ A' 0 ≤ 8) ∧ _
    omega
  exact ⟨hc', wi_c (by omega) (by omega) (by omega) (fun i a b => e i (by omega)) h1, si_c (by omega) (by omega) (by omega) (fun i a b => e i (by omega)) h2, mI_n kn hk (by omega) (by omega) (fun i a b => e i (by omega)) h3 (by omega), hi_c (by omega) (by omega) (by omega) (fun i a b => e i (by omega)) h4, bI_c (by omega) (by omega) (by omega) (fun i a b => e i (by omega)) h5, ci_c (by omega) (by omega) (fun i a b => e i (by omega)) h6, pi_c (by omega) (by omega) (fun i a b => e i (by omega)) h7, li_c (fun i a => e i (by omega)) h8, lj_c (fun i a => e i (by omega)) h8 h9⟩
theorem iv_hour {A : Nat → Int} (nw : Int) (dy : Int) (sl : Int) (ln : Int) (tw : Int) (so : Int) (ss : Int) (kn : Nat) (hk : A 4 = (kn : Int)) (h : Iv9 A) (ok : ok_hour A nw dy sl ln tw so ss) : Iv9 (ua (ua (ua (ua (ua (ua (ua (ua (ua A (280 + 8 * kn) nw) (280 + 8 * kn + 1) dy) (280 + 8 * kn + 2) sl) (280 + 8 * kn + 3) ln) (280 + 8 * kn + 4) tw) (280 + 8 * kn + 5) so) (280 + 8 * kn + 6) ss) (280 + 8 * kn + 7) (A 8)) 4 (A 4 + 1)) := by
  obtain ⟨hc, h1, h2, h3, h4, h5, h6, h7, h8, h9⟩ := h
  have p8 : (2 : Int) ^ (A 2).toNat ≤ 256 := by rcases (by omega : (A 2).toNat = 0 ∨ (A 2).toNat = 1 ∨ (A 2).toNat = 2 ∨ (A 2).toNat = 3 ∨ (A 2).toNat = 4 ∨ (A 2).toNat = 5 ∨ (A 2).toNat = 6 ∨ (A 2).toNat = 7 ∨ (A 2).toNat = 8) with q | q | q | q | q | q | q | q | q <;> rw [q] <;> decide
  have e : ∀ i, (¬ i = 4 ∧ (i < 280 + 8 * kn ∨ 280 + 8 * kn + 7 < i)) → (ua (ua (ua (ua (ua (ua (ua (ua (ua A (280 + 8 * kn) nw) (280 + 8 * kn + 1) dy) (280 + 8 * kn + 2) sl) (280 + 8 * kn + 3) ln) (280 + 8 * kn + 4) tw) (280 + 8 * kn + 5) so) (280 + 8 * kn + 6) ss) (280 + 8 * kn + 7) (A 8)) 4 (A 4 + 1)) i = A i := by intro i hi; rw [ua_ne _ _ (by omega), ua_ne _ _ (by omega), ua_ne _ _ (by omega), ua_ne _ _ (by omega), ua_ne _ _ (by omega), ua_ne _ _ (by omega), ua_ne _ _ (by omega), ua_ne _ _ (by omega), ua_ne _ _ (by omega)]
  have v0 : (ua (ua (ua (ua (ua (ua (ua (ua (ua A (280 + 8 * kn) nw) (280 + 8 * kn + 1) dy) (280 + 8 * kn + 2) sl) (280 + 8 * kn + 3) ln) (280 + 8 * kn + 4) tw) (280 + 8 * kn + 5) so) (280 + 8 * kn + 6) ss) (280 + 8 * kn + 7) (A 8)) 4 (A 4 + 1)) (280 + 8 * kn + 0) = nw := by rw [ua_ne _ _ (by omega), ua_ne _ _ (by omega), ua_ne _ _ (by omega), ua_ne _ _ (by omega), ua_ne _ _ (by omega), ua_ne _ _ (by omega), ua_ne _ _ (by omega), ua_ne _ _ (by omega)]; exact ua_at _ _ _
  have v1 : (ua (ua (ua (ua (ua (ua (ua (ua (ua A (280 + 8 * kn) nw) (280 + 8 * kn + 1) dy) (280 + 8 * kn + 2) sl) (280 + 8 * kn + 3) ln) (280 + 8 * kn + 4) tw) (280 + 8 * kn + 5) so) (280 + 8 * kn + 6) ss) (280 + 8 * kn + 7) (A 8)) 4 (A 4 + 1)) (280 + 8 * kn + 1) = dy := by rw [ua_ne _ _ (by omega), ua_ne _ _ (by omega), ua_ne _ _ (by omega), ua_ne _ _ (by omega), ua_ne _ _ (by omega), ua_ne _ _ (by omega), ua_ne _ _ (by omega), ua_at]
  have v2 : (ua (ua (ua (ua (ua (ua (ua (ua (ua A (280 + 8 * kn) nw) (280 + 8 * kn + 1) dy) (280 + 8 * kn + 2) sl) (280 + 8 * kn + 3) ln) (280 + 8 * kn + 4) tw) (280 + 8 * kn + 5) so) (280 + 8 * kn + 6) ss) (280 + 8 * kn + 7) (A 8)) 4 (A 4 + 1)) (280 + 8 * kn + 2) = sl := by rw [ua_ne _ _ (by omega), ua_ne _ _ (by omega), ua_ne _ _ (by omega), ua_ne _ _ (by omega), ua_ne _ _ (by omega), ua_ne _ _ (by omega), ua_at]
  have v3 : (ua (ua (ua (ua (ua (ua (ua (ua (ua A (280 + 8 * kn) nw) (280 + 8 * kn + 1) dy) (280 + 8 * kn + 2) sl) (280 + 8 * kn + 3) ln) (280 + 8 * kn + 4) tw) (280 + 8 * kn + 5) so) (280 + 8 * kn + 6) ss) (280 + 8 * kn + 7) (A 8)) 4 (A 4 + 1)) (280 + 8 * kn + 3) = ln := by rw [ua_ne _ _ (by omega), ua_ne _ _ (by omega), ua_ne _ _ (by omega), ua_ne _ _ (by omega), ua_ne _ _ (by omega), ua_at]
  have v4 : (ua (ua (ua (ua (ua (ua (ua (ua (ua A (280 + 8 * kn) nw) (280 + 8 * kn + 1) dy) (280 + 8 * kn + 2) sl) (280 + 8 * kn + 3) ln) (280 + 8 * kn + 4) tw) (280 + 8 * kn + 5) so) (280 + 8 * kn + 6) ss) (280 + 8 * kn + 7) (A 8)) 4 (A 4 + 1)) (280 + 8 * kn + 4) = tw := by rw [ua_ne _ _ (by omega), ua_ne _ _ (by omega), ua_ne _ _ (by omega), ua_ne _ _ (by omega), ua_at]
  have v5 : (ua (ua (ua (ua (ua (ua (ua (ua (ua A (280 + 8 * kn) nw) (280 + 8 * kn + 1) dy) (280 + 8 * kn + 2) sl) (280 + 8 * kn + 3) ln) (280 + 8 * kn + 4) tw) (280 + 8 * kn + 5) so) (280 + 8 * kn + 6) ss) (280 + 8 * kn + 7) (A 8)) 4 (A 4 + 1)) (280 + 8 * kn + 5) = so := by rw [ua_ne _ _ (by omega), ua_ne _ _ (by omega), ua_ne _ _ (by omega), ua_at]
  have v6 : (ua (ua (ua (ua (ua (ua (ua (ua (ua A (280 + 8 * kn) nw) (280 + 8 * kn + 1) dy) (280 + 8 * kn + 2) sl) (280 + 8 * kn + 3) ln) (280 + 8 * kn + 4) tw) (280 + 8 * kn + 5) so) (280 + 8 * kn + 6) ss) (280 + 8 * kn + 7) (A 8)) 4 (A 4 + 1)) (280 + 8 * kn + 6) = ss := by rw [ua_ne _ _ (by omega), ua_ne _ _ (by omega), ua_at]
  have v7 : (ua (ua (ua (ua (ua (ua (ua (ua (ua A (280 + 8 * kn) nw) (280 + 8 * kn + 1) dy) (280 + 8 * kn + 2) sl) (280 + 8 * kn + 3) ln) (280 + 8 * kn + 4) tw) (280 + 8 * kn + 5) so) (280 + 8 * kn + 6) ss) (280 + 8 * kn + 7) (A 8)) 4 (A 4 + 1)) (280 + 8 * kn + 7) = (A 8) := by rw [ua_ne _ _ (by omega), ua_at]
  have v8 : (ua (ua (ua (ua (ua (ua (ua (ua (ua A (280 + 8 * kn) nw) (280 + 8 * kn + 1) dy) (280 + 8 * kn + 2) sl) (280 + 8 * kn + 3) ln) (280 + 8 * kn + 4) tw) (280 + 8 * kn + 5) so) (280 + 8 * kn + 6) ss) (280 + 8 * kn + 7) (A 8)) 4 (A 4 + 1)) (4) = A 4 + 1 := by exact ua_at _ _ _
  generalize (ua (ua (ua (ua (ua (ua (ua (ua (ua A (280 + 8 * kn) nw) (280 + 8 * kn + 1) dy) (280 + 8 * kn + 2) sl) (280 + 8 * kn + 3) ln) (280 + 8 * kn + 4) tw) (280 + 8 * kn + 5) so) (280 + 8 * kn + 6) ss) (280 + 8 * kn + 7) (A 8)) 4 (A 4 + 1)) = A' at e v0 v1 v2 v3 v4 v5 v6 v7 v8 ⊢
  have c0 := e 0 (by omega)
  have c1 := e 1 (by omega)
  have c2 := e 2 (by omega)
  have c3 := e 3 (by omega)
  have c5 := e 5 (by omega)
  have c6 := e 6 (by omega)
  have c7 := e 7 (by omega)
  have c8 := e 8 (by omega)
  have c9 := e 9 (by omega)
  have c10 := e 10 (by omega)
  have c13 := e 13 (by omega)
  have hc' : cn A' := by
    show (0 ≤ A' 0 ∧ A' 0 ≤ 8) ∧ _
    omega
  exact ⟨hc', wi_c (by omega) (by omega) (by omega) (fun i a b => e i (by omega)) h1, si_c (by omega) (by omega) (by omega) (fun i a b => e i (by omega)) h2, mI_c (by omega) (by omega) (by omega) (fun i a b => e i (by omega)) h3, hi_n kn hk (by omega) (by omega) (fun i a b => e i (by omega)) h4 (by omega), bI_c (by omega) (by omega) (by omega) (fun i a b => e i (by omega)) h5, ci_c (by omega) (by omega) (fun i a b => e i (by omega)) h6, pi_c (by omega) (by omega) (fun i a b => e i (by omega)) h7, li_c (fun i a => e i (by omega)) h8, lj_c (fun i a => e i (by omega)) h8 h9⟩
theorem iv_cut {A : Nat → Int} (st : Int) (dy : Int) (fd : Int) (td : Int) (rk : Int) (kn : Nat) (hk : A 5 = (kn : Int)) (h : Iv9 A) (ok : ok_cut A st dy fd td rk) : Iv9 (ua (ua (ua (ua (ua (ua (ua A (480 + 6 * kn) st) (480 + 6 * kn + 1) dy) (480 + 6 * kn + 2) fd) (480 + 6 * kn + 3) td) (480 + 6 * kn + 4) rk) (480 + 6 * kn + 5) (A 8)) 5 (A 5 + 1)) := by
  obtain ⟨hc, h1, h2, h3, h4, h5, h6, h7, h8, h9⟩ := h
  have e : ∀ i, (¬ i = 5 ∧ (i < 480 + 6 * kn ∨ 480 + 6 * kn + 5 < i)) → (ua (ua (ua (ua (ua (ua (ua A (480 + 6 * kn) st) (480 + 6 * kn + 1) dy) (480 + 6 * kn + 2) fd) (480 + 6 * kn + 3) td) (480 + 6 * kn + 4) rk) (480 + 6 * kn + 5) (A 8)) 5 (A 5 + 1)) i = A i := by intro i hi; rw [ua_ne _ _ (by omega), ua_ne _ _ (by omega), ua_ne _ _ (by omega), ua_ne _ _ (by omega), ua_ne _ _ (by omega), ua_ne _ _ (by omega), ua_ne _ _ (by omega)]
  have v0 : (ua (ua (ua (ua (ua (ua (ua A (480 + 6 * kn) st) (480 + 6 * kn + 1) dy) (480 + 6 * kn + 2) fd) (480 + 6 * kn + 3) td) (480 + 6 * kn + 4) rk) (480 + 6 * kn + 5) (A 8)) 5 (A 5 + 1)) (480 + 6 * kn + 0) = st := by rw [ua_ne _ _ (by omega), ua_ne _ _ (by omega), ua_ne _ _ (by omega), ua_ne _ _ (by omega), ua_ne _ _ (by omega), ua_ne _ _ (by omega)]; exact ua_at _ _ _
  have v1 : (ua (ua (ua (ua (ua (ua (ua A (480 + 6 * kn) st) (480 + 6 * kn + 1) dy) (480 + 6 * kn + 2) fd) (480 + 6 * kn + 3) td) (480 + 6 * kn + 4) rk) (480 + 6 * kn + 5) (A 8)) 5 (A 5 + 1)) (480 + 6 * kn + 1) = dy := by rw [ua_ne _ _ (by omega), ua_ne _ _ (by omega), ua_ne _ _ (by omega), ua_ne _ _ (by omega), ua_ne _ _ (by omega), ua_at]
  have v2 : (ua (ua (ua (ua (ua (ua (ua A (480 + 6 * kn) st) (480 + 6 * kn + 1) dy) (480 + 6 * kn + 2) fd) (480 + 6 * kn + 3) td) (480 + 6 * kn + 4) rk) (480 + 6 * kn + 5) (A 8)) 5 (A 5 + 1)) (480 + 6 * kn + 2) = fd := by rw [ua_ne _ _ (by omega), ua_ne _ _ (by omega), ua_ne _ _ (by omega), ua_ne _ _ (by omega), ua_at]
  have v3 : (ua (ua (ua (ua (ua (ua (ua A (480 + 6 * kn) st) (480 + 6 * kn + 1) dy) (480 + 6 * kn + 2) fd) (480 + 6 * kn + 3) td) (480 + 6 * kn + 4) rk) (480 + 6 * kn + 5) (A 8)) 5 (A 5 + 1)) (480 + 6 * kn + 3) = td := by rw [ua_ne _ _ (by omega), ua_ne _ _ (by omega), ua_ne _ _ (by omega), ua_at]
  have v4 : (ua (ua (ua (ua (ua (ua (ua A (480 + 6 * kn) st) (480 + 6 * kn + 1) dy) (480 + 6 * kn + 2) fd) (480 + 6 * kn + 3) td) (480 + 6 * kn + 4) rk) (480 + 6 * kn + 5) (A 8)) 5 (A 5 + 1)) (480 + 6 * kn + 4) = rk := by rw [ua_ne _ _ (by omega), ua_ne _ _ (by omega), ua_at]
  have v5 : (ua (ua (ua (ua (ua (ua (ua A (480 + 6 * kn) st) (480 + 6 * kn + 1) dy) (480 + 6 * kn + 2) fd) (480 + 6 * kn + 3) td) (480 + 6 * kn + 4) rk) (480 + 6 * kn + 5) (A 8)) 5 (A 5 + 1)) (480 + 6 * kn + 5) = (A 8) := by rw [ua_ne _ _ (by omega), ua_at]
  have v6 : (ua (ua (ua (ua (ua (ua (ua A (480 + 6 * kn) st) (480 + 6 * kn + 1) dy) (480 + 6 * kn + 2) fd) (480 + 6 * kn + 3) td) (480 + 6 * kn + 4) rk) (480 + 6 * kn + 5) (A 8)) 5 (A 5 + 1)) (5) = A 5 + 1 := by exact ua_at _ _ _
  generalize (ua (ua (ua (ua (ua (ua (ua A (480 + 6 * kn) st) (480 + 6 * kn + 1) dy) (480 + 6 * kn + 2) fd) (480 + 6 * kn + 3) td) (480 + 6 * kn + 4) rk) (480 + 6 * kn + 5) (A 8)) 5 (A 5 + 1)) = A' at e v0 v1 v2 v3 v4 v5 v6 ⊢
  have c0 := e 0 (by omega)
  have c1 := e 1 (by omega)
  have c2 := e 2 (by omega)
  have c3 := e 3 (by omega)
  have c4 := e 4 (by omega)
  have c6 := e 6 (by omega)
  have c7 := e 7 (by omega)
  have c8 := e 8 (by omega)
  have c9 := e 9 (by omega)
  have c10 := e 10 (by omega)
  have c13 := e 13 (by omega)
  have hc' : cn A' := by
    show (0 ≤ A' 0 ∧ A' 0 ≤ 8) ∧ _
    omega
  exact ⟨hc', wi_c (by omega) (by omega) (by omega) (fun i a b => e i (by omega)) h1, si_c (by omega) (by omega) (by omega) (fun i a b => e i (by omega)) h2, mI_c (by omega) (by omega) (by omega) (fun i a b => e i (by omega)) h3, hi_c (by omega) (by omega) (by omega) (fun i a b => e i (by omega)) h4, bI_n kn hk (by omega) (by omega) (fun i a b => e i (by omega)) h5 (by omega), ci_c (by omega) (by omega) (fun i a b => e i (by omega)) h6, pi_c (by omega) (by omega) (fun i a b => e i (by omega)) h7, li_c (fun i a => e i (by omega)) h8, lj_c (fun i a => e i (by omega)) h8 h9⟩
theorem iv_own {A : Nat → Int} (bits : Int) (sn : Nat) (h : Iv9 A) (ok : (sn : Int) < A 2 ∧ 0 ≤ bits ∧ bits ≤ 255) : Iv9 (ua A (80 + 4 * sn + 3) bits) := by
  obtain ⟨hc, h1, h2, h3, h4, h5, h6, h7, h8, h9⟩ := h
  have e : ∀ i, (¬ i = 80 + 4 * sn + 3) → (ua A (80 + 4 * sn + 3) bits) i = A i := by intro i hi; exact ua_ne _ _ hi
  have v0 : (ua A (80 + 4 * sn + 3) bits) (80 + 4 * sn + 3) = bits := by exact ua_at _ _ _
  generalize (ua A (80 + 4 * sn + 3) bits) = A' at e v0 ⊢
  have c0 := e 0 (by omega)
  have c1 := e 1 (by omega)
  have c2 := e 2 (by omega)
  have c3 := e 3 (by omega)
  have c4 := e 4 (by omega)
  have c5 := e 5 (by omega)
  have c6 := e 6 (by omega)
  have c7 := e 7 (by omega)
  have c8 := e 8 (by omega)
  have c9 := e 9 (by omega)
  have c10 := e 10 (by omega)
  have c13 := e 13 (by omega)
  have hc' : cn A' := by
    show (0 ≤ A' 0 ∧ A' 0 ≤ 8) ∧ _
    omega
  have si_o : si A' := by
    intro k hk
    have q := h2 k (by omega)
    have w0 := e (80 + 4 * k + 0) (by omega)
    have w1 := e (80 + 4 * k + 1) (by omega)
    have w2 := e (80 + 4 * k + 2) (by omega)
    by_cases ck : k = sn
    · subst ck; omega
    · have w3 := e (80 + 4 * k + 3) (by omega)
      omega
  exact ⟨hc', wi_c (by omega) (by omega) (by omega) (fun i a b => e i (by omega)) h1, si_o, mI_c (by omega) (by omega) (by omega) (fun i a b => e i (by omega)) h3, hi_c (by omega) (by omega) (by omega) (fun i a b => e i (by omega)) h4, bI_c (by omega) (by omega) (by omega) (fun i a b => e i (by omega)) h5, ci_c (by omega) (by omega) (fun i a b => e i (by omega)) h6, pi_c (by omega) (by omega) (fun i a b => e i (by omega)) h7, li_c (fun i a => e i (by omega)) h8, lj_c (fun i a => e i (by omega)) h8 h9⟩
theorem iv_summer {A : Nat → Int} (fr : Int) (to : Int) (zn : Nat) (h : Iv9 A) (ok : zn < 4) : Iv9 (ua (ua A (20 + 2 * zn) fr) (20 + 2 * zn + 1) to) := by
  obtain ⟨hc, h1, h2, h3, h4, h5, h6, h7, h8, h9⟩ := h
  have e : ∀ i, (i < 20 ∨ 28 ≤ i) → (ua (ua A (20 + 2 * zn) fr) (20 + 2 * zn + 1) to) i = A i := by intro i hi; rw [ua_ne _ _ (by omega), ua_ne _ _ (by omega)]
  generalize (ua (ua A (20 + 2 * zn) fr) (20 + 2 * zn + 1) to) = A' at e  ⊢
  have c0 := e 0 (by omega)
  have c1 := e 1 (by omega)
  have c2 := e 2 (by omega)
  have c3 := e 3 (by omega)
  have c4 := e 4 (by omega)
  have c5 := e 5 (by omega)
  have c6 := e 6 (by omega)
  have c7 := e 7 (by omega)
  have c8 := e 8 (by omega)
  have c9 := e 9 (by omega)
  have c10 := e 10 (by omega)
  have c13 := e 13 (by omega)
  have hc' : cn A' := by
    show (0 ≤ A' 0 ∧ A' 0 ≤ 8) ∧ _
    omega
  exact ⟨hc', wi_c (by omega) (by omega) (by omega) (fun i a b => e i (by omega)) h1, si_c (by omega) (by omega) (by omega) (fun i a b => e i (by omega)) h2, mI_c (by omega) (by omega) (by omega) (fun i a b => e i (by omega)) h3, hi_c (by omega) (by omega) (by omega) (fun i a b => e i (by omega)) h4, bI_c (by omega) (by omega) (by omega) (fun i a b => e i (by omega)) h5, ci_c (by omega) (by omega) (fun i a b => e i (by omega)) h6, pi_c (by omega) (by omega) (fun i a b => e i (by omega)) h7, li_c (fun i a => e i (by omega)) h8, lj_c (fun i a => e i (by omega)) h8 h9⟩
theorem iv_calls {A : Nat → Int} (st : Int) (ca : Int) (he : Int) (kn : Nat) (hk : A 6 = (kn : Int)) (h : Iv9 A) (ok : ok_calls A st ca he) : Iv9 (ua (ua (ua (ua A (630 + 3 * kn) st) (630 + 3 * kn + 1) ca) (630 + 3 * kn + 2) he) 6 (A 6 + 1)) := by
  obtain ⟨hc, h1, h2, h3, h4, h5, h6, h7, h8, h9⟩ := h
  have e : ∀ i, (¬ i = 6 ∧ (i < 630 + 3 * kn ∨ 630 + 3 * kn + 2 < i)) → (ua (ua (ua (ua A (630 + 3 * kn) st) (630 + 3 * kn + 1) ca) (630 + 3 * kn + 2) he) 6 (A 6 + 1)) i = A i := by intro i hi; rw [ua_ne _ _ (by omega), ua_ne _ _ (by omega), ua_ne _ _ (by omega), ua_ne _ _ (by omega)]
  have v0 : (ua (ua (ua (ua A (630 + 3 * kn) st) (630 + 3 * kn + 1) ca) (630 + 3 * kn + 2) he) 6 (A 6 + 1)) (630 + 3 * kn) = st := by rw [ua_ne _ _ (by omega), ua_ne _ _ (by omega), ua_ne _ _ (by omega), ua_at]
  have v1 : (ua (ua (ua (ua A (630 + 3 * kn) st) (630 + 3 * kn + 1) ca) (630 + 3 * kn + 2) he) 6 (A 6 + 1)) (630 + 3 * kn + 1) = ca := by rw [ua_ne _ _ (by omega), ua_ne _ _ (by omega), ua_at]
  have v2 : (ua (ua (ua (ua A (630 + 3 * kn) st) (630 + 3 * kn + 1) ca) (630 + 3 * kn + 2) he) 6 (A 6 + 1)) (630 + 3 * kn + 2) = he := by rw [ua_ne _ _ (by omega), ua_at]
  have v3 : (ua (ua (ua (ua A (630 + 3 * kn) st) (630 + 3 * kn + 1) ca) (630 + 3 * kn + 2) he) 6 (A 6 + 1)) (6) = A 6 + 1 := by exact ua_at _ _ _
  generalize (ua (ua (ua (ua A (630 + 3 * kn) st) (630 + 3 * kn + 1) ca) (630 + 3 * kn + 2) he) 6 (A 6 + 1)) = A' at e v0 v1 v2 v3 ⊢
  have c0 := e 0 (by omega)
  have c1 := e 1 (by omega)
  have c2 := e 2 (by omega)
  have c3 := e 3 (by omega)
  have c4 := e 4 (by omega)
  have c5 := e 5 (by omega)
  have c7 := e 7 (by omega)
  have c8 := e 8 (by omega)
  have c9 := e 9 (by omega)
  have c10 := e 10 (by omega)
  have c13 := e 13 (by omega)
  have hc' : cn A' := by
    show (0 ≤ A' 0 ∧ A' 0 ≤ 8) ∧ _
    omega
  exact ⟨hc', wi_c (by omega) (by omega) (by omega) (fun i a b => e i (by omega)) h1, si_c (by omega) (by omega) (by omega) (fun i a b => e i (by omega)) h2, mI_c (by omega) (by omega) (by omega) (fun i a b => e i (by omega)) h3, hi_c (by omega) (by omega) (by omega) (fun i a b => e i (by omega)) h4, bI_c (by omega) (by omega) (by omega) (fun i a b => e i (by omega)) h5, ci_n kn hk (by omega) (fun i a b => e i (by omega)) h6 (by omega), pi_c (by omega) (by omega) (fun i a b => e i (by omega)) h7, li_c (fun i a => e i (by omega)) h8, lj_c (fun i a => e i (by omega)) h8 h9⟩
theorem iv_piece {A : Nat → Int} (so : Int) (kn : Nat) (hk : A 7 = (kn : Int)) (h : Iv9 A) (ok : ¬ A 7 = 6 ∧ (0 ≤ so ∧ so ≤ 7)) : Iv9 (ua (pz A (750 + 7 * kn) so 6) 7 (A 7 + 1)) := by
  obtain ⟨hc, h1, h2, h3, h4, h5, h6, h7, h8, h9⟩ := h
  have e : ∀ i, (¬ i = 7 ∧ (i < 750 + 7 * kn ∨ 750 + 7 * kn + 6 < i)) → (ua (pz A (750 + 7 * kn) so 6) 7 (A 7 + 1)) i = A i := by intro i hi; rw [ua_ne _ _ (by omega)]; exact (pz_v A (750 + 7 * kn) so 6).2.2 i (by omega)
  have v0 : (ua (pz A (750 + 7 * kn) so 6) 7 (A 7 + 1)) (750 + 7 * kn) = so := by rw [ua_ne _ _ (by omega)]; exact (pz_v A (750 + 7 * kn) so 6).1
  have v1 : (ua (pz A (750 + 7 * kn) so 6) 7 (A 7 + 1)) (7) = A 7 + 1 := by exact ua_at _ _ _
  have vz : ∀ t, t < 6 → (ua (pz A (750 + 7 * kn) so 6) 7 (A 7 + 1)) (750 + 7 * kn + 1 + t) = 0 := by intro t ht; rw [ua_ne _ _ (by omega)]; exact (pz_v A (750 + 7 * kn) so 6).2.1 t ht
  generalize (ua (pz A (750 + 7 * kn) so 6) 7 (A 7 + 1)) = A' at e v0 v1 vz ⊢
  have c0 := e 0 (by omega)
  have c1 := e 1 (by omega)
  have c2 := e 2 (by omega)
  have c3 := e 3 (by omega)
  have c4 := e 4 (by omega)
  have c5 := e 5 (by omega)
  have c6 := e 6 (by omega)
  have c8 := e 8 (by omega)
  have c9 := e 9 (by omega)
  have c10 := e 10 (by omega)
  have c13 := e 13 (by omega)
  have hc' : cn A' := by
    show (0 ≤ A' 0 ∧ A' 0 ≤ 8) ∧ _
    omega
  exact ⟨hc', wi_c (by omega) (by omega) (by omega) (fun i a b => e i (by omega)) h1, si_c (by omega) (by omega) (by omega) (fun i a b => e i (by omega)) h2, mI_c (by omega) (by omega) (by omega) (fun i a b => e i (by omega)) h3, hi_c (by omega) (by omega) (by omega) (fun i a b => e i (by omega)) h4, bI_c (by omega) (by omega) (by omega) (fun i a b => e i (by omega)) h5, ci_c (by omega) (by omega) (fun i a b => e i (by omega)) h6, pi_n kn hk (by omega) (fun i a b => e i (by omega)) h7 ⟨by omega, fun t ht => by rw [vz t ht]; omega⟩, li_c (fun i a => e i (by omega)) h8, lj_c (fun i a => e i (by omega)) h8 h9⟩
theorem iv_worth {A : Nat → Int} (wo : Int) (pn tn : Nat) (h : Iv9 A) (ok : ((pn : Int) < A 7 ∧ tn < 6) ∧ 0 ≤ wo ∧ wo ≤ 9999) : Iv9 (ua A (750 + 7 * pn + 1 + tn) wo) := by
  obtain ⟨hc, h1, h2, h3, h4, h5, h6, h7, h8, h9⟩ := h
  have e : ∀ i, (¬ i = 750 + 7 * pn + 1 + tn) → (ua A (750 + 7 * pn + 1 + tn) wo) i = A i := by intro i hi; exact ua_ne _ _ hi
  have v0 : (ua A (750 + 7 * pn + 1 + tn) wo) (750 + 7 * pn + 1 + tn) = wo := by exact ua_at _ _ _
  generalize (ua A (750 + 7 * pn + 1 + tn) wo) = A' at e v0 ⊢
  have c0 := e 0 (by omega)
  have c1 := e 1 (by omega)
  have c2 := e 2 (by omega)
  have c3 := e 3 (by omega)
  have c4 := e 4 (by omega)
  have c5 := e 5 (by omega)
  have c6 := e 6 (by omega)
  have c7 := e 7 (by omega)
  have c8 := e 8 (by omega)
  have c9 := e 9 (by omega)
  have c10 := e 10 (by omega)
  have c13 := e 13 (by omega)
  have hc' : cn A' := by
    show (0 ≤ A' 0 ∧ A' 0 ≤ 8) ∧ _
    omega
  have pi_o : piI A' := by
    intro k hk
    have q := h7 k (by omega)
    refine ⟨by rw [e _ (by omega)]; exact q.1, fun t ht => ?_⟩
    by_cases ck : k = pn ∧ t = tn
    · rw [ck.1, ck.2, v0]; omega
    · rw [e _ (by omega)]; exact q.2 t ht
  exact ⟨hc', wi_c (by omega) (by omega) (by omega) (fun i a b => e i (by omega)) h1, si_c (by omega) (by omega) (by omega) (fun i a b => e i (by omega)) h2, mI_c (by omega) (by omega) (by omega) (fun i a b => e i (by omega)) h3, hi_c (by omega) (by omega) (by omega) (fun i a b => e i (by omega)) h4, bI_c (by omega) (by omega) (by omega) (fun i a b => e i (by omega)) h5, ci_c (by omega) (by omega) (fun i a b => e i (by omega)) h6, pi_o, li_c (fun i a => e i (by omega)) h8, lj_c (fun i a => e i (by omega)) h8 h9⟩
theorem im_v (A : Nat → Int) {k : Nat} : ∀ m i : Nat, m ≤ 2260 → im A k m i = if 2260 * (k + 1) ≤ i ∧ i < 2260 * (k + 1) + m then A (i - 2260 * (k + 1)) else A i
  | 0, i, _ => by rw [if_neg (by omega)]; rfl
  | m + 1, i, h => by
    show ua (im A k m) (2260 * (k + 1) + m) (im A k m m) i = _
    by_cases c : i = 2260 * (k + 1) + m
    · rw [c, ua_at, im_v A m m (by omega), if_neg (by omega), if_pos (by omega), show 2260 * (k + 1) + m - 2260 * (k + 1) = m by omega]
    · rw [ua_ne _ _ c, im_v A m i (by omega)]
      by_cases g : 2260 * (k + 1) ≤ i ∧ i < 2260 * (k + 1) + m
      · rw [if_pos g, if_pos (by omega)]
      · rw [if_neg g, if_neg (by omega)]
theorem ag_v (A : Nat → Int) {k : Nat} : ∀ m i : Nat, m ≤ 2260 → ag A k m i = if i < m then A (2260 * (k + 1) + i) else A i
  | 0, i, _ => by rw [if_neg (by omega)]; rfl
  | m + 1, i, h => by
    show ua (ag A k m) m (ag A k m (2260 * (k + 1) + m)) i = _
    by_cases c : i = m
    · rw [c, ua_at, ag_v A m _ (by omega), if_neg (by omega), if_pos (by omega)]
    · rw [ua_ne _ _ c, ag_v A m i (by omega)]
      by_cases g : i < m
      · rw [if_pos g, if_pos (by omega)]
      · rw [if_neg g, if_neg (by omega)]
theorem iv_image {A : Nat → Int} (k : Nat) (h : Iv9 A) : Iv9 (im A k 2260) := Iv9_c (fun i hi => by rw [im_v A 2260 i (Nat.le_refl _), if_neg (by omega)]) h
theorem iv_again {A : Nat → Int} (k : Nat) (h : Iv9 (fun i => A (2260 * (k + 1) + i))) : Iv9 (ag A k 2260) := Iv9_c (fun i hi => by rw [ag_v A 2260 i (Nat.le_refl _), if_pos (by omega)]) h
theorem fd_lo (A : Nat → Int) (a b c d e : Int) (h0 : 0 ≤ A 10) : ∀ m : Nat, (fd A a b c d e m) 10 = A 10 + (m : Int) ∧ ∀ i, i < 1760 → i ≠ 10 → fd A a b c d e m i = A i
  | 0 => ⟨by show A 10 = A 10 + 0; omega, fun _ _ _ => rfl⟩
  | m + 1 => by
    obtain ⟨g1, g2⟩ := fd_lo A a b c d e h0 m
    unfold fd
    refine ⟨by rw [ua_at, g1]; omega, fun i h1 h2 => ?_⟩
    rw [ua_ne _ _ h2, ua_ne _ _ (by omega)]
    exact g2 i h1 h2
theorem iv_feed {A : Nat → Int} (a9 : Int) (b9 : Int) (c9 : Int) (d9 : Int) (e9 : Int) (h : Iv9 A) (ok : ¬ 500 < A 10 + 20) : Iv9 (fd A a9 b9 c9 d9 e9 20) := by
  obtain ⟨hc, h1, h2, h3, h4, h5, h6, h7, h8, h9⟩ := h
  have e : ∀ i, (i < 1760 ∧ i ≠ 10) → (fd A a9 b9 c9 d9 e9 20) i = A i := by intro i hi; exact (fd_lo A a9 b9 c9 d9 e9 (by omega) 20).2 i hi.1 hi.2
  have v0 : (fd A a9 b9 c9 d9 e9 20) (10) = A 10 + 20 := by exact (fd_lo A a9 b9 c9 d9 e9 (by omega) 20).1
  generalize (fd A a9 b9 c9 d9 e9 20) = A' at e v0 ⊢
  have c0 := e 0 (by omega)
  have c1 := e 1 (by omega)
  have c2 := e 2 (by omega)
  have c3 := e 3 (by omega)
  have c4 := e 4 (by omega)
  have c5 := e 5 (by omega)
  have c6 := e 6 (by omega)
  have c7 := e 7 (by omega)
  have c8 := e 8 (by omega)
  have c9 := e 9 (by omega)
  have c13 := e 13 (by omega)
  have hc' : cn A' := by
    show (0 ≤ A' 0 ∧ A' 0 ≤ 8) ∧ _
    omega
  exact ⟨hc', wi_c (by omega) (by omega) (by omega) (fun i a b => e i (by omega)) h1, si_c (by omega) (by omega) (by omega) (fun i a b => e i (by omega)) h2, mI_c (by omega) (by omega) (by omega) (fun i a b => e i (by omega)) h3, hi_c (by omega) (by omega) (by omega) (fun i a b => e i (by omega)) h4, bI_c (by omega) (by omega) (by omega) (fun i a b => e i (by omega)) h5, ci_c (by omega) (by omega) (fun i a b => e i (by omega)) h6, pi_c (by omega) (by omega) (fun i a b => e i (by omega)) h7, li_c (fun i a => e i (by omega)) h8, lj_c (fun i a => e i (by omega)) h8 h9⟩

