/-! the tape's bytes stay bytes -/
def Mt9 (σ : Nat → Nat → Int) : Prop := tb9 (σ 1) ∧ ∀ k, k < 3 → σ 2 k ≠ 0 → tb9 (shf9 σ k)
section MTB
variable {σ T : Nat → Nat → Int} {A A2 : Nat → Int}
theorem tb_c (h : tb9 A) (e10 : A2 10 ≤ A 10) (e : ∀ i, 1760 ≤ i → i < 2260 → A2 i = A i) (hc : A 10 ≤ 500) : tb9 A2 := fun i hi => by
  rw [e _ (by omega) (by omega)]; exact h i (by omega)
theorem mt_00 : Mt9 s00 := ⟨fun i hi => absurd hi (by
  have z : s00 1 10 = 0 := rfl
  rw [z]; omega), fun k _ hne => absurd rfl hne⟩
/-- a teller that leaves the tape alone -/
theorem mt_set (h : Mt9 σ) (hM : Ms9 σ) (e10 : A2 10 ≤ σ 1 10) (e : ∀ i, 1760 ≤ i → A2 i = σ 1 i) : Mt9 (sA σ 1 A2) := by
  have hc := hM.2.1.1
  unfold cn at hc
  refine ⟨by rw [sA_at]; exact tb_c h.1 e10 (fun i a _ => e i a) (by omega), fun k hk hne => ?_⟩
  rw [sA_ne _ _ (by decide)] at hne
  have es : shf9 (sA σ 1 A2) k = shf9 σ k := by
    funext i
    unfold shf9
    rw [sA_at]
    exact e _ (by omega)
  rw [es]
  exact h.2 k hk hne
/-- a step that only uses the scratch cells -/
theorem mt_scr (h : Mt9 σ) (h1 : T 1 = σ 1) (h2 : T 2 = σ 2) : Mt9 T := by
  refine ⟨by rw [h1]; exact h.1, fun k hk hne => ?_⟩
  rw [h2] at hne
  have es : shf9 T k = shf9 σ k := by
    funext i
    unfold shf9
    rw [h1]
  rw [es]
  exact h.2 k hk hne
theorem mt_feed (a b c d e : Int) (h : Mt9 σ) (hM : Ms9 σ) (ok : ¬ 500 < σ 1 10 + 20) : Mt9 (sA σ 1 (fd (σ 1) a b c d e 20)) := by
  have hc := hM.2.1.1
  unfold cn at hc
  obtain ⟨v1, v2, v3⟩ := fd_v (σ 1) a b c d e (by omega) 20 (Nat.le_refl _)
  refine ⟨?_, fun k hk hne => ?_⟩
  · rw [sA_at]
    intro i hi
    rw [v1] at hi
    by_cases q : (i : Int) < σ 1 10
    · rw [v3 _ (by omega) (by omega)]; exact h.1 i q
    · have z := v2 (i - (σ 1 10).toNat) (by omega)
      rw [show 1760 + (σ 1 10).toNat + (i - (σ 1 10).toNat) = 1760 + i by omega] at z
      rw [z]
      have p8 : (2 : Int) ^ 8 = 256 := by decide
      rw [p8]
      omega
  · rw [sA_ne _ _ (by decide)] at hne
    have es : shf9 (sA σ 1 (fd (σ 1) a b c d e 20)) k = shf9 σ k := by
      funext i
      unfold shf9
      rw [sA_at]
      exact v3 _ (by omega) (by omega)
    rw [es]
    exact h.2 k hk hne
theorem mt_image {k : Nat} (hk : k < 3) (h : Mt9 σ) (hM : Ms9 σ) : Mt9 (sA (u2 σ 2 k (xb true)) 1 (im (σ 1) k 2260)) := by
  have hc := hM.2.1.1
  unfold cn at hc
  refine ⟨?_, fun q hq hne => ?_⟩
  · rw [sA_at]
    exact tb_c h.1 (by rw [im_v _ 2260 _ (Nat.le_refl _), if_neg (by omega)]; exact Int.le_refl _) (fun i a b => by rw [im_v _ 2260 _ (Nat.le_refl _), if_neg (by omega)]) (by omega)
  · by_cases c : q = k
    · subst c
      refine tb_c h.1 ?_ (fun i a b => ?_) (by omega)
      · unfold shf9
        rw [sA_at, im_v _ 2260 _ (Nat.le_refl _), if_pos (by omega), show 2260 * (q + 1) + 10 - 2260 * (q + 1) = 10 by omega]
        exact Int.le_refl _
      · unfold shf9
        rw [sA_at, im_v _ 2260 _ (Nat.le_refl _), if_pos (by omega), show 2260 * (q + 1) + i - 2260 * (q + 1) = i by omega]
    · have hne2 : σ 2 q ≠ 0 := by
        rw [sA_ne _ _ (by decide), u2_sA, sA_at, ua_ne _ _ c] at hne
        exact hne
      have iv := hM.2.2.1 q hq hne2
      have ivc := iv.1
      unfold cn at ivc
      refine tb_c (h.2 q hq hne2) ?_ (fun i a b => ?_) iv.1.2.2.2.2.2.2.2.2.2.2.1.2
      · unfold shf9
        rw [sA_at, im_v _ 2260 _ (Nat.le_refl _), if_neg (by omega)]
        exact Int.le_refl _
      · unfold shf9
        rw [sA_at, im_v _ 2260 _ (Nat.le_refl _), if_neg (by omega)]
theorem mt_again {k : Nat} (hk : k < 3) (hne : σ 2 k ≠ 0) (h : Mt9 σ) (hM : Ms9 σ) : Mt9 (sA σ 1 (ag (σ 1) k 2260)) := by
  have iv := hM.2.2.1 k hk hne
  have ivc := iv.1
  unfold cn at ivc
  refine ⟨?_, fun q hq hneq => ?_⟩
  · rw [sA_at]
    refine tb_c (h.2 k hk hne) ?_ (fun i a b => ?_) iv.1.2.2.2.2.2.2.2.2.2.2.1.2
    · rw [ag_v _ 2260 _ (Nat.le_refl _), if_pos (by omega)]
      exact Int.le_refl _
    · rw [ag_v _ 2260 _ (Nat.le_refl _), if_pos b]
      rfl
  · rw [sA_ne _ _ (by decide)] at hneq
    have es : shf9 (sA σ 1 (ag (σ 1) k 2260)) q = shf9 σ q := by
      funext i
      unfold shf9
      rw [sA_at, ag_v _ 2260 _ (Nat.le_refl _), if_neg (by omega)]
    rw [es]
    exact h.2 q hq hneq
theorem mt_ct {nw : Int} (h : Mt9 σ) (hM : Ms9 σ) : Mt9 (ctS σ nw) := by
  have hc := hM.2.1.1
  have c10 : 0 ≤ σ 1 10 ∧ σ 1 10 ≤ 500 := by unfold cn at hc; omega
  obtain ⟨v1, v2, v3⟩ := ct0_v σ
  obtain ⟨f1, f2, f3, f4⟩ := ctf_v hM.1 c10
  have fin : ∀ s : Nat → Nat → Int, s 1 10 = 0 → s 2 = σ 2 → (∀ i, 2260 ≤ i → s 1 i = σ 1 i) → Mt9 s := by
    intro s h1 h2 h3
    refine ⟨fun i hi => by rw [h1] at hi; omega, fun q hq hne => ?_⟩
    rw [h2] at hne
    have es : shf9 s q = shf9 σ q := by
      funext i
      exact h3 _ (by omega)
    rw [es]
    exact h.2 q hq hne
  unfold ctS
  split
  · exact fin _ (by rw [v1]; rfl) (v2 2 (by decide) (by decide)) (fun i hi => by rw [v1, ua_ne _ _ (by omega), ua_ne _ _ (by omega), ua_ne _ _ (by omega)])
  · split
    · exact fin _ f3 (f4 2 (by decide) (by decide) (by decide) (by decide)) (fun i hi => f2 i (by omega) (by omega) (by omega))
    · next ok _ =>
      have hw : nw.toNat < 3 := by omega
      exact fin _ (by rw [sA_at]; exact (ctA_o _ _ hw _ (by omega) (by omega)).trans f3) (by rw [sA_ne _ _ (by decide)]; exact f4 2 (by decide) (by decide) (by decide) (by decide)) (fun i hi => by rw [sA_at]; exact (ctA_o _ _ hw _ (by omega) (by omega)).trans (f2 i (by omega) (by omega) (by omega)))
end MTB
