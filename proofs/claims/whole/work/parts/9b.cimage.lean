/-! what is always so of the class's cells; image and again keep it -/
def Hk9 (ar : Nat → ClassId) (b : Nat) (w0 : zcW) (n e0 : Nat) (Ow : Nat → Nat) (off : Nat) (A : Nat → Int) (T : Nat → Nat → Int) : Prop := Rel9 ar b w0 A T ∧ LQ9 ar b w0 n e0 Ow off T ∧ byt9 T ∧ ∀ i, i < 6 → inI (T 13 i)
def Im9 (ar : Nat → ClassId) (b : Nat) (w0 : zcW) (n : Nat) (Ow : Nat → Nat) (k x : Nat) (T : Nat → Nat → Int) : Prop := x + 23 ≤ n ∧ b + 46 ≤ x ∧ (∀ j, 1 ≤ j ∧ j ≤ 18 → w0 (x + j) = gcell ar x (T j) j) ∧ ∀ i, 1 ≤ i ∧ i < 23 → Ow (x + i) = 10 + k
def shf9 (σ : Nat → Nat → Int) (k : Nat) : Nat → Int := fun i => σ 1 (2260 * (k + 1) + i)
def Ik9 (ar : Nat → ClassId) (b : Nat) (w0 : zcW) (n e0 : Nat) (Ow : Nat → Nat) (σ τ : Nat → Nat → Int) (k : Nat) : Prop := (τ 23 k < 0 ∧ σ 2 k = 0) ∨ (σ 2 k ≠ 0 ∧ ∃ (x : Nat) (T : Nat → Nat → Int), τ 23 k = ((x + 1 : Nat) : Int) ∧ Im9 ar b w0 n Ow k x T ∧ Hk9 ar b w0 n e0 Ow (100 * (k + 1)) (shf9 σ k) T)
def CI9 (ar : Nat → ClassId) (b : Nat) (w0 : zcW) (n e0 : Nat) (Ow : Nat → Nat) (σ τ : Nat → Nat → Int) : Prop := Hk9 ar b w0 n e0 Ow 0 (σ 1) τ ∧ (∀ k, k < 3 → Ik9 ar b w0 n e0 Ow σ τ k) ∧ (∀ a, n ≤ a → w0 a = none) ∧ b + 51 ≤ n ∧ e0 < b
section CIK
variable {ar : Nat → ClassId} {b : Nat} {w0 w w1 w9 : zcW} {n n9 e0 x y : Nat} {A : Nat → Int} {σ τ T θ : Nat → Nat → Int} {Ow Ow9 : Nat → Nat}
theorem Im9.blk {k : Nat} (hk : k < 3) (h : Im9 ar b w0 n Ow k x T) : blk9 ar b w0 Ow x T := Or.inr ⟨h.2.2.1, fun i hi => by have := h.2.2.2 i hi; omega, h.2.1⟩
/-- rows of lists are no cells of an image -/
theorem im_ne {k off j a : Nat} (hk : k < 3) (h : Im9 ar b w0 n Ow k x T) (hT : LQ9 ar b w0 n e0 Ow off θ) (ho : off % 100 = 0) (he0 : e0 < b) (hj : isj9 j) (ha : x + 1 ≤ a ∧ a < x + 23) : a ≠ (θ j 1).toNat := by
  intro z
  have jr := isj_lt hj
  obtain ⟨a1, a2, a3⟩ := ls_n (hT j hj).1
  have xb := h.2.1
  have o2 := (hT j hj).2 _ a1 (by omega)
  have o1 := h.2.2.2 (a - x) (by omega)
  rw [show x + (a - x) = (θ j 1).toNat by omega] at o1
  omega
theorem im_kept {k offT x2 : Nat} {T2 : Nat → Nat → Int} {sz : Nat → Nat} {P : Nat → Nat → Nat} {E : Nat → Nat} (hk : k < 3) (hw : w = cw ar b τ w0) (he0 : e0 < b) (hI : Im9 ar b w0 n Ow k x2 T2) (hd : x2 + 18 < x + 1 ∨ x + 18 < x2 + 1) (hT : LQ9 ar b w0 n e0 Ow offT T) (hoT : offT % 100 = 0) (h1 : tlS ar w n e0 x (fun j => (T j 1).toNat) sz P [8, 7, 6, 3, 2] w1 n9 E) (h2 : tka9 ar x T θ w1 w9) (hO : ∀ a, a < n → Ow9 a = Ow a) : Im9 ar b w9 n9 Ow9 k x2 T2 := by
  have i9 : ∀ j ∈ [8, 7, 6, 3, 2], isj9 j := by unfold isj9; decide
  have hI0 := hI
  obtain ⟨g1, g2, g3, g4⟩ := hI
  refine ⟨by have := h1.2.2.1; omega, g2, fun j hj => ?_, fun i hi => by rw [hO _ (by omega)]; exact g4 i hi⟩
  rw [h2.1 (x2 + j) (by omega), h1.1 (x2 + j) (by omega) (fun i hi => ⟨by have := isj_lt (i9 i hi); omega, im_ne hk hI0 hT hoT he0 (i9 i hi) (by omega)⟩), hw, cw_nf (Or.inr (Or.inr (by omega)))]
  exact g3 j hj
/-- the class's own cells, while an image takes -/
theorem own_kept {offT : Nat} {sz : Nat → Nat} {P : Nat → Nat → Nat} {E : Nat → Nat} (hw : w = cw ar b τ w0) (hn : b + 47 ≤ n) (he0 : e0 < b) (hx : b + 46 ≤ x) (hT : LQ9 ar b w0 n e0 Ow offT T) (h1 : tlS ar w n e0 x (fun j => (T j 1).toNat) sz P [8, 7, 6, 3, 2] w1 n9 E) (h2 : tka9 ar x T θ w1 w9) : cw ar b τ w9 = w9 := by
  have i9 : ∀ j ∈ [8, 7, 6, 3, 2], isj9 j := by unfold isj9; decide
  refine cw_fold (fun j X hX => ?_)
  have j47 : ¬ ((19 ≤ j ∧ j < 23) ∨ 47 ≤ j) := fun z => by rw [gcell_none ar b _ z] at hX; exact absurd hX (by simp)
  rw [h2.1 (b + j) (by omega), h1.1 (b + j) (by omega) (fun i hi => ⟨by have := isj_lt (i9 i hi); omega, fun z => ?_⟩), hw]
  · exact cw_at j hX
  · obtain ⟨a1, a2, a3⟩ := ls_n (hT i (i9 i hi)).1
    dsimp only at z
    rcases a3 with q | ⟨q1, _⟩
    · omega
    · unfold nf9 at q1; omega
/-- image k takes: afterwards -/
theorem ci_image {k : Nat} {P : Nat → Nat → Nat} {E : Nat → Nat} (hk : k < 3) (hM : Ms9 σ) (hH : Hk9 ar b w0 n e0 Ow 0 (σ 1) τ) (hI : ∀ q, q < 3 → q ≠ k → Ik9 ar b w0 n e0 Ow σ τ q) (hfree : ∀ a, n ≤ a → w0 a = none) (hn : b + 51 ≤ n) (he0 : e0 < b) (hlow : ∀ (a : Nat) (X : va_E), w0 a = some X → b ≤ a) (ht : τ 23 k = ((x + 1 : Nat) : Int)) (hm : Im9 ar b w0 n Ow k x T) (hT : LQ9 ar b w0 n e0 Ow (100 * (k + 1)) T) (hw : w = cw ar b τ w0) (hP : ∀ j i : Nat, isj9 j → (i : Int) < nj9 (σ 1) j → it9q ar b w0 (τ j) i (P j i) ∧ ob9 b w0 (P j i) (ci9 j) (fj9 (σ 1) j i)) (h1 : tlS ar w n e0 x (fun j => (T j 1).toNat) (fun j => (τ j 2).toNat) P [8, 7, 6, 3, 2] w1 n9 E) (h2 : tka9 ar x T τ w1 w9) : cw ar b τ w9 = w9 ∧ ∃ Ow9, CI9 ar b w9 n9 e0 Ow9 (sA (u2 σ 2 k (xb true)) 1 (im (σ 1) k 2260)) τ := by
  have i9 : ∀ j ∈ [8, 7, 6, 3, 2], isj9 j := by unfold isj9; decide
  have hc := hM.2.1.1
  have hl : li (σ 1) := hM.2.1.2.2.2.2.2.2.2.2.1
  have hoT : (100 * (k + 1)) % 100 = 0 := by omega
  obtain ⟨kg, ka⟩ := tk_kg hw hfree hlow he0 (hm.blk hk) hT h1 h2
  obtain ⟨T9, t1, t2, t3, t4, t5, t6, t7⟩ := tk_out hc hw hfree ⟨by omega, by have := hm.1; omega⟩ he0 (hm.blk hk) hT hoT hH.1 hP kg h1 h2
  have hO : ∀ a, a < n → owt9 Ow n (100 * (k + 1)) E a = Ow a := fun a ha => if_pos ha
  have nn : n ≤ n9 := h1.2.2.1
  have s2 : ∀ q, (sA (u2 σ 2 k (xb true)) 1 (im (σ 1) k 2260)) 2 q = if q = k then 1 else σ 2 q := by
    intro q
    rw [sA_ne _ _ (by decide), u2_sA, sA_at]
    unfold ua
    by_cases c : q = k
    · rw [if_pos c, if_pos c]; rfl
    · rw [if_neg c, if_neg c]
  have s1 : (sA (u2 σ 2 k (xb true)) 1 (im (σ 1) k 2260)) 1 = im (σ 1) k 2260 := sA_at _ _ _
  have w15 : ∀ i, 15 ≤ i ∧ i ≤ 18 → w1 (x + i) = gcell ar x (T i) i := by
    intro i hi
    have xb := hm.2.1
    have xn := hm.1
    rw [h1.1 (x + i) (by omega) (fun j hj => ⟨by have := isj_lt (i9 j hj); omega, im_ne hk hm hT hoT he0 (i9 j hj) (by omega)⟩), hw, cw_nf (Or.inr (Or.inr (by omega)))]
    exact hm.2.2.1 i (by omega)
  refine ⟨own_kept hw (by omega) he0 hm.2.1 hT h1 h2, owt9 Ow n (100 * (k + 1)) E, ⟨?_, ?_, hH.2.2⟩, fun q hq => ?_, fun a ha => (h2.1 a (by have := hm.1; omega)).trans (h1.2.1 a ha), by omega, he0⟩
  · rw [s1]
    exact rel_cg hc hl (fun i hi => by rw [im_v _ 2260 i (Nat.le_refl _), if_neg (by omega)]) (kg_rel kg hH.2.1 (ka 0 τ (by omega) hoT (by omega) hH.2.1) hH.1)
  · exact kg_lq kg nn hO hH.2.1 (ka 0 τ (by omega) hoT (by omega) hH.2.1) hH.1
  · by_cases c : q = k
    · subst c
      refine Or.inr ⟨by rw [s2, if_pos rfl]; decide, x, T9, ht, ⟨by have := hm.1; omega, hm.2.1, fun j hj => t1 j hj w15, fun i hi => by rw [hO _ (by have := hm.1; omega)]; exact hm.2.2.2 i hi⟩, ?_, t3, t4 hH.2.2.1, fun i hi => by rw [t6 i hi]; exact hH.2.2.2 i hi⟩
      exact rel_cg hc hl (fun i hi => by unfold shf9; rw [s1, im_v _ 2260 _ (Nat.le_refl _), if_pos (by omega), show 2260 * (q + 1) + i - 2260 * (q + 1) = i by omega]) t2
    · rcases hI q hq c with ⟨y1, y2⟩ | ⟨y1, x2, T2, y2, y3, y4⟩
      · exact Or.inl ⟨y1, by rw [s2, if_neg c]; exact y2⟩
      · have dd : x2 + 18 < x + 1 ∨ x + 18 < x2 + 1 := by
          apply Decidable.byContradiction
          intro z
          by_cases le : x ≤ x2
          · have o1 := y3.2.2.2 1 (by omega)
            have o2 := hm.2.2.2 (x2 + 1 - x) (by omega)
            rw [show x + (x2 + 1 - x) = x2 + 1 by omega] at o2
            omega
          · have o1 := hm.2.2.2 1 (by omega)
            have o2 := y3.2.2.2 (x + 1 - x2) (by omega)
            rw [show x2 + (x + 1 - x2) = x + 1 by omega] at o2
            omega
        have iv := hM.2.2.1 q hq y1
        have ka2 := ka (100 * (q + 1)) T2 (by omega) hoT (by omega) y4.2.1
        refine Or.inr ⟨by rw [s2, if_neg c]; exact y1, x2, T2, y2, im_kept hq hw he0 y3 dd hT hoT h1 h2 hO, ?_, kg_lq kg nn hO y4.2.1 ka2 y4.1, y4.2.2⟩
        exact rel_cg iv.1 iv.2.2.2.2.2.2.2.2.1 (fun i hi => by unfold shf9; rw [s1, im_v _ 2260 _ (Nat.le_refl _), if_neg (by omega)]) (kg_rel kg y4.2.1 ka2 y4.1)
/-- again: afterwards -/
theorem ci_again {k : Nat} {P : Nat → Nat → Nat} {E : Nat → Nat} (hk : k < 3) (hM : Ms9 σ) (hC : CI9 ar b w0 n e0 Ow σ τ) (hlow : ∀ (a : Nat) (X : va_E), w0 a = some X → b ≤ a) (hne : σ 2 k ≠ 0) (hw : w = cw ar b τ w0) (hH : Rel9 ar b w0 (shf9 σ k) θ ∧ byt9 θ ∧ ∀ i, i < 6 → inI (θ 13 i)) (hP : ∀ j i : Nat, isj9 j → (i : Int) < nj9 (shf9 σ k) j → it9q ar b w0 (θ j) i (P j i) ∧ ob9 b w0 (P j i) (ci9 j) (fj9 (shf9 σ k) j i)) (h1 : tlS ar w n e0 b (fun j => (τ j 1).toNat) (fun j => (θ j 2).toNat) P [8, 7, 6, 3, 2] w1 n9 E) (h2 : tka9 ar b τ θ w1 w9) : ∃ τ9, cw ar b τ9 w9 = w9 ∧ ∃ Ow9, CI9 ar b w9 n9 e0 Ow9 (sA σ 1 (ag (σ 1) k 2260)) τ9 := by
  have i9 : ∀ j ∈ [8, 7, 6, 3, 2], isj9 j := by unfold isj9; decide
  obtain ⟨hT, hI, hfree, hn, he0⟩ := hC
  have iv := hM.2.2.1 k hk hne
  have hc : cn (shf9 σ k) := iv.1
  have hl : li (shf9 σ k) := iv.2.2.2.2.2.2.2.2.1
  obtain ⟨kg, ka⟩ := tk_kg hw hfree hlow he0 (Or.inl rfl) hT.2.1 h1 h2
  obtain ⟨T9, t1, t2, t3, t4, t5, t6, t7⟩ := tk_out hc hw hfree ⟨by omega, by omega⟩ he0 (Or.inl rfl) hT.2.1 (by decide) hH.1 hP kg h1 h2
  have hO : ∀ a, a < n → owt9 Ow n 0 E a = Ow a := fun a ha => if_pos ha
  have nn : n ≤ n9 := h1.2.2.1
  have own : ∀ j, (j < 19 ∨ 23 ≤ j) → j < 47 → (j = 0 ∨ 9 ≤ j ∨ j = 1 ∨ j = 4 ∨ j = 5) → w1 (b + j) = cw ar b τ w0 (b + j) := by
    intro j q1 q2 q3
    rw [h1.1 (b + j) (by omega) (fun i hi => ⟨by have := i9 i hi; unfold isj9 at this; omega, fun z => ?_⟩), hw]
    obtain ⟨a1, a2, a3⟩ := ls_n (hT.2.1 i (i9 i hi)).1
    dsimp only at z
    rcases a3 with q | ⟨q1, _⟩
    · omega
    · unfold nf9 at q1; omega
  have w15 : ∀ i, 15 ≤ i ∧ i ≤ 18 → w1 (b + i) = gcell ar b (τ i) i := by
    intro i hi
    rw [own i (by omega) (by omega) (by omega)]
    rcases (by omega : i = 15 ∨ i = 16 ∨ i = 17 ∨ i = 18) with rfl | rfl | rfl | rfl
    · exact cw_at 15 rfl
    · exact cw_at 16 rfl
    · exact cw_at 17 rfl
    · exact cw_at 18 rfl
  have s1 : (sA σ 1 (ag (σ 1) k 2260)) 1 = ag (σ 1) k 2260 := sA_at _ _ _
  refine ⟨T9, cw_fold (fun j X hX => ?_), owt9 Ow n 0 E, ⟨?_, t3, t4 hH.2.1, fun i hi => by rw [t6 i hi]; exact hH.2.2 i hi⟩, fun q hq => ?_, fun a ha => (h2.1 a (by omega)).trans (h1.2.1 a ha), by omega, he0⟩
  · have j47 : ¬ ((19 ≤ j ∧ j < 23) ∨ 47 ≤ j) := fun z => by rw [gcell_none ar b _ z] at hX; exact absurd hX (by simp)
    by_cases c : 1 ≤ j ∧ j ≤ 18
    · rw [t1 j c w15]; exact hX
    · rw [h2.1 (b + j) (by omega), own j (by omega) (by omega) (by omega)]
      by_cases c0 : j = 0
      · subst c0; exact cw_at 0 hX
      · rw [t7 j (by omega)] at hX; exact cw_at j hX
  · rw [s1]
    exact rel_cg hc hl (fun i hi => by rw [ag_v _ 2260 i (Nat.le_refl _), if_pos (by omega)]; rfl) t2
  · have e23 : T9 23 q = τ 23 q := by rw [t7 23 (by decide)]
    have es : shf9 (sA σ 1 (ag (σ 1) k 2260)) q = shf9 σ q := by
      funext i
      unfold shf9
      rw [s1, ag_v _ 2260 _ (Nat.le_refl _), if_neg (by omega)]
    have e2 : (sA σ 1 (ag (σ 1) k 2260)) 2 q = σ 2 q := by rw [sA_ne _ _ (by decide)]
    rcases hI q hq with ⟨y1, y2⟩ | ⟨y1, x2, T2, y2, y3, y4⟩
    · exact Or.inl ⟨by rw [e23]; exact y1, by rw [e2]; exact y2⟩
    · have ka2 := ka (100 * (q + 1)) T2 (by omega) (by decide) (by omega) y4.2.1
      exact Or.inr ⟨by rw [e2]; exact y1, x2, T2, by rw [e23]; exact y2, im_kept hq hw he0 y3 (by have := y3.2.1; omega) hT.2.1 (by decide) h1 h2 hO, by rw [es]; exact kg_rel kg y4.2.1 ka2 y4.1, kg_lq kg nn hO y4.2.1 ka2 y4.1, y4.2.2⟩
end CIK
