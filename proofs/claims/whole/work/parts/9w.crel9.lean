/-! the class's cells behind contract -/
section CCT
variable {ar : Nat → ClassId} {b : Nat} {w0 w9 : zcW} {n n9 e0 : Nat} {A A2 : Nat → Int} {σ τ T S : Nat → Nat → Int} {Ow : Nat → Nat}
theorem rlC_cq {k p : Nat} (hk : k < 3) (hl : li A) (e : A2 (14 + k) = A (14 + k)) (e2 : ∀ i, i < 320 → A2 (800 + 320 * k + i) = A (800 + 320 * k + i)) (h : rlC ar b w0 A k p) : rlC ar b w0 A2 k p := by
  obtain ⟨pd, pc, pt, fd, fc, ft, g1, g2, g3, g4, g5⟩ := h
  have lk := hl k hk
  have E : ∀ x q, x < 16 → q < 20 → A2 (800 + 320 * k + 20 * x + q) = A (800 + 320 * k + 20 * x + q) := fun x q hx hq => by
    rw [show 800 + 320 * k + 20 * x + q = 800 + 320 * k + (20 * x + q) by omega]; exact e2 _ (by omega)
  refine ⟨pd, pc, pt, fd, fc, ft, by rw [e]; exact g1, g2, g3, g4, fun x hx => ?_⟩
  rw [e] at hx
  have x16 : x < 16 := by omega
  obtain ⟨y1, y2, y3⟩ := g5 x hx
  have E0 := E x 0 x16 (by decide)
  rw [Nat.add_zero] at E0
  unfold deed at y1 ⊢
  rw [E x 17 x16 (by decide), E x 18 x16 (by decide), E0]
  refine ⟨y1, y2, fun t ht => ?_⟩
  have t4 : t < 4 := by have := lk.2 x hx; omega
  have F : ∀ q, q < 4 → A2 (800 + 320 * k + 20 * x + 1 + 4 * t + q) = A (800 + 320 * k + 20 * x + 1 + 4 * t + q) := fun q hq => by
    rw [show 800 + 320 * k + 20 * x + 1 + 4 * t + q = 800 + 320 * k + 20 * x + (1 + 4 * t + q) by omega]; exact E x _ x16 (by omega)
  have F0 := F 0 (by decide)
  rw [Nat.add_zero] at F0
  rw [F0, F 1 (by decide), F 2 (by decide), F 3 (by decide)]
  exact y3 t ht
theorem rel_ct {t1 t10 : Nat → Int} (hc : cn A) (e : ∀ i, i < 800 → i ≠ 10 → i ≠ 11 → i ≠ 12 → ¬ (14 ≤ i ∧ i < 17) → A2 i = A i) (h10 : A2 10 = 0) (h : Rel9 ar b w0 A T) (hI : rlI A2 t1 (T 12 0)) (hcon : ∀ k : Nat, k < 3 → ∃ p : Nat, t10 k = (p : Int) ∧ rlC ar b w0 A2 k p) : rlF ar b w0 A2 t1 (T 2) (T 3) (T 4) (T 5) (T 6) (T 7) (T 8) (T 9) t10 (T 11) (T 12 0) (T 13) (T 14) := by
  have c := hc
  unfold cn at c
  have LL : ∀ {t : Nat → Int} {N : Int} {ci : Nat} {f f2 : Nat → List Value}, rlL ar b w0 t N ci f → (∀ i : Nat, (i : Int) < N → f2 i = f i) → rlL ar b w0 t N ci f2 := fun g hf => ⟨g.1, fun i hi => let ⟨p, q1, q2⟩ := g.2 i hi; ⟨p, q1, by rw [hf i hi]; exact q2⟩⟩
  have E : ∀ i, 17 ≤ i → i < 800 → A2 i = A i := fun i h1 h2 => e i h2 (by omega) (by omega) (by omega) (by omega)
  have E0 : ∀ i, i < 10 → A2 i = A i := fun i h1 => e i (by omega) (by omega) (by omega) (by omega) (by omega)
  refine ⟨hI, ?_, ?_, ?_, ?_, ?_, fun i hi => ?_, fun z hz => ?_, fun i hi => ?_, hcon, fun k q hk hq => ?_, fun k hk => ?_, fun k t hk ht => ?_⟩
  · rw [E0 1 (by decide)]
    exact LL h.l2 (fun i hi => by unfold fWire; rw [E _ (by omega) (by omega), E _ (by omega) (by omega), E _ (by omega) (by omega), E _ (by omega) (by omega)])
  · rw [E0 2 (by decide)]
    exact LL h.l3 (fun i hi => by unfold fStat; rw [E _ (by omega) (by omega), E _ (by omega) (by omega), E _ (by omega) (by omega)])
  · rw [E0 3 (by decide)]
    exact LL h.l6 (fun i hi => by unfold fMemb; rw [E _ (by omega) (by omega), E _ (by omega) (by omega), E _ (by omega) (by omega), E _ (by omega) (by omega)])
  · rw [E0 4 (by decide)]
    exact LL h.l7 (fun i hi => by unfold fHour; rw [E _ (by omega) (by omega), E _ (by omega) (by omega), E _ (by omega) (by omega), E _ (by omega) (by omega), E _ (by omega) (by omega), E _ (by omega) (by omega), E _ (by omega) (by omega), E _ (by omega) (by omega)])
  · rw [E0 5 (by decide)]
    exact LL h.l8 (fun i hi => by unfold fBrk; rw [E _ (by omega) (by omega), E _ (by omega) (by omega), E _ (by omega) (by omega), E _ (by omega) (by omega), E _ (by omega) (by omega), E _ (by omega) (by omega)])
  · rw [E0 2 (by decide), E _ (by omega) (by omega)]; exact h.own i hi
  · rw [E _ (by omega) (by omega), E _ (by omega) (by omega)]; exact h.sum z hz
  · rw [h10] at hi; omega
  · rw [E0 6 (by decide)] at hk
    rw [E _ (by omega) (by omega)]; exact h.calls k q hk hq
  · rw [E0 7 (by decide)] at hk
    rw [E _ (by omega) (by omega)]; exact h.sorts k hk
  · rw [E0 7 (by decide), E _ (by omega) (by omega)]; exact h.worths k t hk ht
/-- all but told's own words, behind contract -/
theorem ci_ct {σ9 τ9 : Nat → Nat → Int} (hC : CI9 ar b w0 n e0 Ow σ τ) (hn : n ≤ n9) (keep : ∀ a, a < n → w9 a = w0 a) (free : ∀ a, n9 ≤ a → w9 a = none) (s2 : σ9 2 = σ 2) (s1 : ∀ i, 2260 ≤ i → σ9 1 i = σ 1 i) (t2 : ∀ j, j ≠ 1 → j ≠ 10 → j < 44 → τ9 j = τ j) (hR : Rel9 ar b w9 (σ9 1) τ9) : CI9 ar b w9 n9 e0 Ow σ9 τ9 := by
  obtain ⟨hH, hI, hfree, hbn, he0⟩ := hC
  have kg : kg9 ar b w0 w9 := ⟨fun p ci fs h1 h2 _ _ _ => keep p (lt_free hfree h2), fun p N f h1 h2 _ => keep p (lt_free hfree h2)⟩
  have ka : ∀ (off : Nat) (U : Nat → Nat → Int), LQ9 ar b w0 n e0 Ow off U → ∀ j, isj9 j → ak9 e0 w0 w9 (U j) := by
    intro off U hU j hj e t1 ne
    obtain ⟨a1, a2, a3⟩ := ls_n (hU j hj).1
    have ee : e = (U j 1).toNat := by omega
    rcases a3 with q | ⟨q1, q2, _⟩
    · omega
    · rw [← ee] at q2
      exact keep e q2
  refine ⟨⟨hR, fun j hj => ?_, ?_, ?_⟩, fun k hk => ?_, free, by omega, he0⟩
  · rw [t2 j (by have := isj_lt hj; omega) (by have := isj_lt hj; omega) (by have := isj_lt hj; omega)]
    exact kg_lq kg hn (fun _ _ => rfl) hH.2.1 (ka 0 τ hH.2.1) hH.1 j hj
  · intro i hi
    rw [t2 9 (by decide) (by decide) (by decide)]; exact hH.2.2.1 i hi
  · intro i hi
    rw [t2 13 (by decide) (by decide) (by decide)]; exact hH.2.2.2 i hi
  · have es : shf9 σ9 k = shf9 σ k := by
      funext i
      exact s1 _ (by omega)
    rcases hI k hk with ⟨y1, y2⟩ | ⟨y1, x2, T2, y2, y3, y4⟩
    · exact Or.inl ⟨by rw [t2 23 (by decide) (by decide) (by decide)]; exact y1, by rw [s2]; exact y2⟩
    · have l1 := y3.1
      exact Or.inr ⟨by rw [s2]; exact y1, x2, T2, by rw [t2 23 (by decide) (by decide) (by decide)]; exact y2, ⟨by omega, y3.2.1, fun j hj => by rw [keep (x2 + j) (by omega)]; exact y3.2.2.1 j hj, y3.2.2.2⟩, by rw [es]; exact kg_rel kg y4.2.1 (ka _ T2 y4.2.1) y4.1, kg_lq kg hn (fun _ _ => rfl) y4.2.1 (ka _ T2 y4.2.1) y4.1, y4.2.2⟩
theorem cta_o {j : Nat} (h : j ≠ 1) : cta τ j = τ j := sA_ne _ _ h
theorem rxS_o {A : Nat → Int} {ln : Nat} (hl : ln ≤ 500) {j : Nat} (h : j < 44) : (rxS n (spS A ln (cta τ))) j = cta τ j := by
  obtain ⟨r1, r2⟩ := sp_r (A := A) (ln := ln) (τ := cta τ) hl
  have RK := rk_rxw (pk := n) (((spS A ln (cta τ)) 44 2).toNat + 1) 0 (rx0 n (spS A ln (cta τ))) (ri_rx0 r1 r2).1
  have e1 : (rxS n (spS A ln (cta τ))) j = (rxw (((spS A ln (cta τ)) 44 2).toNat + 1) 0 (rx0 n (spS A ln (cta τ)))) j := by
    unfold rxS rxE
    split
    · exact sA_ne _ _ (by omega)
    · rfl
  rw [e1, RK.2.2.2.2 j (by omega) (by omega)]
  unfold rx0
  rw [sA_ne _ _ (by omega), rx00_o _ _ (by omega) (by omega)]
  unfold spS
  rw [sA_ne _ _ (by omega), sA_ne _ _ (by omega), sA_ne _ _ (by omega)]
end CCT
