/-! the reference's search for a plan stays in range; its state after string and plan -/
theorem pl9_in {A : Nat → Int} (hp : piI A) (h7 : 0 ≤ A 7 ∧ A 7 ≤ 6) : ∀ (f : Nat) (k : Int) (T G : Nat → Int) (tot : Int), -1 ≤ k → k < A 7 → (∀ j : Nat, (j : Int) < k → 0 ≤ T j ∧ T j ≤ 5) → (0 ≤ k → -1 ≤ T k.toNat ∧ T k.toNat ≤ 5) → (-1 ≤ tot ∧ tot ≤ 59994) → (∀ i, inI (T i)) → (∀ i, inI (G i)) → (-1 ≤ (pl9 A f k T G tot).1 ∧ (pl9 A f k T G tot).1 ≤ 59994) ∧ (∀ i, inI ((pl9 A f k T G tot).2.1 i)) ∧ ∀ i, inI ((pl9 A f k T G tot).2.2 i)
  | 0, k, T, G, tot, _, _, _, _, ht, hT, hG => ⟨ht, hG, hT⟩
  | f + 1, k, T, G, tot, k0, k1, hj, hk, ht, hT, hG => by
    unfold pl9
    by_cases c : k < 0
    · rw [if_pos c]; exact ⟨ht, hG, hT⟩
    rw [if_neg c]
    have tk := hk (by omega)
    have T2 : ∀ i, inI (ua T k.toNat (T k.toNat + 1) i) := in_ua hT (by omega)
    have low : ∀ j : Nat, (j : Int) < k → 0 ≤ ua T k.toNat (T k.toNat + 1) j ∧ ua T k.toNat (T k.toNat + 1) j ≤ 5 := fun j q => by rw [ua_ne _ _ (by omega)]; exact hj j q
    by_cases c1 : T k.toNat + 1 = 6
    · rw [if_pos c1]
      refine pl9_in hp h7 f _ _ _ _ (by omega) (by omega) (fun j q => low j (by omega)) (fun q => ?_) ht T2 hG
      have := low (k + -1).toNat (by omega)
      omega
    rw [if_neg c1]
    have at9 : ua T k.toNat (T k.toNat + 1) k.toNat = T k.toNat + 1 := ua_at _ _ _
    by_cases c2 : gs A (ua T k.toNat (T k.toNat + 1)) k.toNat k.toNat = false
    · rw [if_pos c2]
      exact pl9_in hp h7 f _ _ _ _ (by omega) (by omega) low (fun q => by omega) ht T2 hG
    rw [if_neg c2]
    by_cases c3 : k = A 7 - 1
    · rw [if_pos c3]
      have r := ks_rng (T := ua T k.toNat (T k.toNat + 1)) hp (N := (A 7).toNat) (fun j q => by
        by_cases z : j = k.toNat
        · rw [z, at9]; omega
        · exact low j (by omega)) (by omega)
      refine pl9_in hp h7 f _ _ _ _ (by omega) (by omega) low (fun q => by omega) (by split <;> omega) T2 ?_
      split
      · exact hG
      · exact kc_in hG T2 _
    · rw [if_neg c3]
      refine pl9_in hp h7 f _ _ _ _ (by omega) (by omega) (fun j q => ?_) (fun q => ?_) ht (in_ua T2 (by omega)) hG
      · rw [ua_ne _ _ (by omega)]
        by_cases z : j = k.toNat
        · rw [z, at9]; omega
        · exact low j (by omega)
      · rw [show (k + 1).toNat = k.toNat + 1 by omega, ua_at]; omega
theorem plR_in {A T G : Nat → Int} (hp : piI A) (h7 : 0 ≤ A 7 ∧ A 7 ≤ 6) (h0 : T 0 = -1) (hT : ∀ i, inI (T i)) (hG : ∀ i, inI (G i)) : (-1 ≤ (plR A T G).1 ∧ (plR A T G).1 ≤ 59994) ∧ (∀ i, inI ((plR A T G).2.1 i)) ∧ ∀ i, inI ((plR A T G).2.2 i) := by
  unfold plR
  by_cases c : A 7 = 0
  · rw [if_pos c]
    exact ⟨by show -1 ≤ (0 : Int) ∧ (0 : Int) ≤ 59994; omega, hG, hT⟩
  · rw [if_neg c]
    exact pl9_in hp h7 plF 0 T G (-1) (by omega) (by omega) (fun j q => by omega) (fun _ => by show -1 ≤ T 0 ∧ T 0 ≤ 5; omega) (by omega) hT hG
theorem ms_plan {σ : Nat → Nat → Int} (h : Ms9 σ) : inI (plR (σ 1) (ua (σ 15) 0 (-1)) (σ 16)).1 ∧ Ms9 (sA (sA (sA σ 0 (ua (σ 0) 27 (plR (σ 1) (ua (σ 15) 0 (-1)) (σ 16)).1)) 15 (plR (σ 1) (ua (σ 15) 0 (-1)) (σ 16)).2.2) 16 (plR (σ 1) (ua (σ 15) 0 (-1)) (σ 16)).2.1) := by
  have hc := h.2.1.1
  have z := plR_in (A := σ 1) (T := ua (σ 15) 0 (-1)) (G := σ 16) h.2.1.2.2.2.2.2.2.2.1 (by omega) (ua_at _ _ _) (in_ua (h.1 15) (by omega)) (h.1 16)
  have i1 : inI (plR (σ 1) (ua (σ 15) 0 (-1)) (σ 16)).1 := by have := z.1; omega
  exact ⟨i1, ms_scr h rfl rfl (rg_sA (rg_sA (rg_sA h.1 (in_ua (h.1 0) i1)) z.2.2) z.2.1) h.2.2.2.1 h.2.2.2.2⟩
theorem ms_hL {σ : Nat → Nat → Int} (h : Ms9 σ) : (∀ i, inI (ms (σ 1) (σ 7) (σ 1 1).toNat i)) ∧ ms (σ 1) (σ 7) (σ 1 1).toNat 0 = 0 := ms_in h.2.1.1 h.2.1.2.1 (h.1 7) h.2.2.2.1
theorem ms_stg {σ : Nat → Nat → Int} (h : Ms9 σ) (d t u : Int) : Ms9 (stg σ d t u) :=
  ms_scr h rfl rfl (stg_rg h.1 h.2.1.1 (ms_hL h).1 d t u) (ms_hL h).2 h.2.2.2.2
