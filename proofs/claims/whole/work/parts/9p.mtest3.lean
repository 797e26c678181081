/-! a test with its place in the line -/
def SI9 (A : Nat → Int) (n : Int) (k : Nat) (τ s : Nat → Nat → Int) : Prop := (Co9 A n τ s ∧ ((Cl9 k τ s ∧ s 0 10 < 16) ∨ Mn9 τ s)) ∨ Bd9 τ s
section ITS
variable {A : Nat → Int} {n : Int} {τ s T t V : Nat → Nat → Int} {k : Nat}
theorem pu_o (s : Nat → Nat → Int) (k : Nat) (v : Int) {j : Nat} (h : j ≠ 3) : puS s k v j = s j := by
  unfold puS
  split
  · exact sA_ne _ _ h
  · rfl
theorem pu4_o (s : Nat → Nat → Int) (k : Nat) {j : Nat} (h : j ≠ 3) : ∀ i, pu4 s k i j = s j
  | 0 => rfl
  | i + 1 => by
    unfold pu4
    rw [pu_o _ _ _ h]
    exact pu4_o s k h i
theorem pu4_3 (s : Nat → Nat → Int) (k : Nat) (h : s 0 10 < 16) : ∀ i, pu4 s k (i + 1) 3 = ua (pu4 s k i 3) (20 * (s 0 10).toNat + (1 + 4 * k + i)) (s 4 i) := by
  intro i
  show puS (pu4 s k i) (1 + 4 * k + i) ((pu4 s k i) 4 i) 3 = _
  unfold puS
  rw [pu4_o s k (by decide : (0 : Nat) ≠ 3) i, pu4_o s k (by decide : (4 : Nat) ≠ 3) i, if_pos h, sA_at]
theorem pu4_v (s : Nat → Nat → Int) (k : Nat) (h : s 0 10 < 16) : pu4 s k 4 3 = ua (ua (ua (ua (s 3) (20 * (s 0 10).toNat + (1 + 4 * k + 0)) (s 4 0)) (20 * (s 0 10).toNat + (1 + 4 * k + 1)) (s 4 1)) (20 * (s 0 10).toNat + (1 + 4 * k + 2)) (s 4 2)) (20 * (s 0 10).toNat + (1 + 4 * k + 3)) (s 4 3) := by
  rw [pu4_3 s k h 3, pu4_3 s k h 2, pu4_3 s k h 1, pu4_3 s k h 0]
  rfl
theorem bd_rtS (h : Bd9 τ s) : rtS τ = τ := by
  unfold rtS
  rw [(bd_tks h 10 10).1]
  have e : ∀ nt, rt2 (tkP τ) nt τ = τ := by
    intro nt
    unfold rt2
    rw [(bd_tks h 14 22).1, (bd_tks h 14 22).2]
    unfold rt3
    rw [if_neg (by decide)]
    exact bd_rt4 h _ _ _ _ _
  rw [e, e]
  split <;> rfl
theorem bd_al (h : s 0 9 = 1) : alS s = s := by
  unfold alS
  rw [if_pos (Or.inl (by omega))]
theorem bd_it (h : Bd9 τ s) : Bd9 τ (it9 k s) := by
  have h9 := h.2.1
  have e1 : (if 3 < k then alS s else s) = s := by
    rw [bd_al h9]
    split <;> rfl
  have e2 : teS s = te0 s 0 := by
    unfold teS te1
    rw [if_neg (by omega)]
    have z : te0 s 0 0 9 = 1 := by rw [te0_o _ _ (by decide)]; exact h9
    unfold te2
    rw [if_neg (by omega), st_id z]
  have b2 : Bd9 τ (te0 s 0) := bd_u h (by rw [te0_o _ _ (by decide)]) (te0_o _ _ (by decide))
  unfold it9
  rw [e1, e2]
  split
  · exact bd_u b2 (by rw [pu4_o _ _ (by decide)]) (pu4_o _ _ (by decide) _)
  · exact b2
theorem atS_o (τ : Nat → Nat → Int) (nt sb sg nu : Int) {j : Nat} (h : j ≠ 102) (h2 : j ≠ 103) : atS τ nt sb sg nu j = τ j := by
  unfold atS
  split
  · rw [sA_ne _ _ h2, sA_ne _ _ h]
  · rfl
theorem pl_nn (hn : byn9 A n) (h : cur9 A n τ s) : 0 ≤ s 0 4 := by
  obtain ⟨⟨l1, l2, l3, l4, l5⟩, c2, c3, c4, c5, c6, c7, c8, c9⟩ := h
  rw [← c4]
  unfold tkP
  by_cases c : (τ 44 3).toNat < tn9 A n
  · rw [(l2 _ c).2.1]
    have pr := (pl_r (A := A) (n := n) hn.1.1 (τ 44 3).toNat (fun i hi => (l2 i (by omega)).2.2)).2
    omega
  · rw [show (τ 44 3).toNat = tn9 A n by omega, l4]; exact hn.1.1
/-- the new row of a test -/
theorem dt_add {nt : Bool} {sb sg nu : Int} (h : Dt9 k τ s) (hk : k < 4) (hL : s 0 10 < 16) (t1 : t 3 = s 3) (t2 : t 0 10 = s 0 10) (hv : tv8 nt sb sg nu t) (v0 : V 100 = τ 100) (v1 : V 101 = τ 101) (v2 : V 102 = τ 102) (v3 : V 103 = τ 103) : rmT V ∧ Dt9 (k + 1) (atS V (xb nt) sb sg nu) (pu4 t k 4) := by
  obtain ⟨d1, d2, d3, d4, d5⟩ := h
  obtain ⟨d6, d7, d8⟩ := d4 hL
  obtain ⟨L, hLn⟩ : ∃ L : Nat, s 0 10 = (L : Int) := ⟨(s 0 10).toNat, by omega⟩
  have eL : (s 0 10).toNat = L := by omega
  have L16 : L < 16 := by omega
  rw [eL] at d6 d8
  have rm : rmT V := by
    unfold rmT
    rw [v0, v2, d1, eL, d6]
    omega
  refine ⟨rm, ?_⟩
  have rw9 : rwT V = 16 * L + 4 * k := by
    unfold rwT
    rw [v0, v2, d1, eL, d6]
    omega
  have c102 : atS V (xb nt) sb sg nu 102 = ua (τ 102) L ((k : Int) + 1) := by
    unfold atS
    rw [if_pos rm, sA_ne _ _ (by decide), sA_at, v0, v2, d1, eL, d6]
  have c103 : atS V (xb nt) sb sg nu 103 = ua (ua (ua (ua (τ 103) (16 * L + 4 * k) (xb nt)) (16 * L + 4 * k + 1) sb) (16 * L + 4 * k + 2) sg) (16 * L + 4 * k + 3) nu := by
    unfold atS
    rw [if_pos rm, sA_at, rw9, v3]
  have c101 : atS V (xb nt) sb sg nu 101 = τ 101 := (atS_o _ _ _ _ _ (by decide) (by decide)).trans v1
  have c100 : atS V (xb nt) sb sg nu 100 = τ 100 := (atS_o _ _ _ _ _ (by decide) (by decide)).trans v0
  have p0 : pu4 t k 4 0 10 = (L : Int) := by rw [pu4_o _ _ (by decide), t2, hLn]
  have p3 := pu4_v t k (by rw [t2]; exact hL)
  rw [t2, eL, t1] at p3
  obtain ⟨w1, w2, w3, w4, w5, w6, w7⟩ := hv
  -- what is not touched
  have k103 : ∀ i, (i < 16 * L + 4 * k ∨ 16 * L + 4 * k + 4 ≤ i) → atS V (xb nt) sb sg nu 103 i = τ 103 i := by
    intro i hi
    rw [c103, ua_ne _ _ (by omega), ua_ne _ _ (by omega), ua_ne _ _ (by omega), ua_ne _ _ (by omega)]
  have k3 : ∀ i, (i < 20 * L + 1 + 4 * k ∨ 20 * L + 1 + 4 * k + 4 ≤ i) → pu4 t k 4 3 i = s 3 i := by
    intro i hi
    rw [p3, ua_ne _ _ (by omega), ua_ne _ _ (by omega), ua_ne _ _ (by omega), ua_ne _ _ (by omega)]
  have old : ∀ x q, (x < L ∧ q < 4) ∨ (x = L ∧ q < k) → rw8 τ (s 3) x q → rw8 (atS V (xb nt) sb sg nu) (pu4 t k 4 3) x q := by
    intro x q hx hr
    unfold rw8 at hr ⊢
    rw [k103 _ (by omega), k103 _ (by omega), k103 _ (by omega), k103 _ (by omega), k3 _ (by omega), k3 _ (by omega), k3 _ (by omega), k3 _ (by omega)]
    exact hr
  refine ⟨by rw [c100, p0, d1, hLn], by rw [p0]; omega, fun x hx => ?_, fun _ => ?_, fun x hx hx16 => ?_⟩
  · rw [p0] at hx
    have hxL : x < L := by omega
    obtain ⟨e1, e2, e3, e4, e5, e6⟩ := d3 x (by omega)
    unfold ln8 deed
    unfold deed at e1
    rw [c101, c102, ua_ne _ _ (by omega), k3 _ (by omega), k3 _ (by omega), k3 _ (by omega)]
    exact ⟨e1, e2, e3, e4, e5, fun q hq => old x q (Or.inl ⟨hxL, by omega⟩) (e6 q hq)⟩
  · rw [p0, Int.toNat_natCast]
    refine ⟨by rw [c102, ua_at]; omega, by omega, fun q hq => ?_⟩
    by_cases c : q < k
    · exact old L q (Or.inr ⟨rfl, c⟩) (d8 q c)
    · have e : q = k := by omega
      subst e
      have r0 : pu4 t q 4 3 (20 * L + 1 + 4 * q) = t 4 0 := by
        rw [p3, ua_ne _ _ (by omega), ua_ne _ _ (by omega), ua_ne _ _ (by omega), show 20 * L + 1 + 4 * q = 20 * L + (1 + 4 * q + 0) by omega, ua_at]
      have r1 : pu4 t q 4 3 (20 * L + 1 + 4 * q + 1) = t 4 1 := by
        rw [p3, ua_ne _ _ (by omega), ua_ne _ _ (by omega), show 20 * L + 1 + 4 * q + 1 = 20 * L + (1 + 4 * q + 1) by omega, ua_at]
      have r2 : pu4 t q 4 3 (20 * L + 1 + 4 * q + 2) = t 4 2 := by
        rw [p3, ua_ne _ _ (by omega), show 20 * L + 1 + 4 * q + 2 = 20 * L + (1 + 4 * q + 2) by omega, ua_at]
      have r3 : pu4 t q 4 3 (20 * L + 1 + 4 * q + 3) = t 4 3 := by
        rw [p3, show 20 * L + 1 + 4 * q + 3 = 20 * L + (1 + 4 * q + 3) by omega, ua_at]
      unfold rw8
      rw [r0, r1, r2, r3, c103]
      refine ⟨?_, ?_, ?_, ?_, w3, w5, w7⟩
      · rw [ua_ne _ _ (by omega), ua_ne _ _ (by omega), ua_ne _ _ (by omega), show 16 * L + 4 * q + 0 = 16 * L + 4 * q from rfl, ua_at]; exact w1
      · rw [ua_ne _ _ (by omega), ua_ne _ _ (by omega), ua_at]; exact w2
      · rw [ua_ne _ _ (by omega), ua_at]; exact w4
      · rw [ua_at]; exact w6
  · rw [p0] at hx
    rw [c102, ua_ne _ _ (by omega)]
    exact d5 x (by omega) hx16
theorem sm_it (hn : byn9 A n) (h : SI9 A n k τ s) : SI9 A n (k + 1) (rtS τ) (it9 k s) := by
  rcases Or.symm h with h | ⟨co, hd⟩
  · rw [bd_rtS h]; exact Or.inr (bd_it h)
  obtain ⟨s1, hs1⟩ : ∃ s1, s1 = if 3 < k then alS s else s := ⟨_, rfl⟩
  have al_o : ∀ j, j ≠ 1 → s1 j = s j := by
    intro j hj
    rw [hs1]
    split
    · unfold alS
      split
      · rfl
      · rw [u2_sA, sA_ne _ _ hj, u2_sA, sA_ne _ _ hj]
    · rfl
  have al_1 : ∀ i, 1760 ≤ i → s1 1 i = s 1 i := by
    intro i hi
    rw [hs1]
    split
    · unfold alS
      split
      · rfl
      · rw [u2_o (by omega), u2_o (by omega)]
    · rfl
  have co1 : Co9 A n τ s1 := ⟨cur_k co.1 rfl rfl rfl rfl (fun i _ => by rw [al_o 0 (by decide)]) al_1, co.2.1, by rw [al_o 0 (by decide)]; exact co.2.2⟩
  have eit : it9 k s = if k < 4 then pu4 (teS s1) k 4 else teS s1 := by rw [hs1]; rfl
  rw [eit]
  obtain ⟨t, ht⟩ : ∃ t, t = teS s1 := ⟨_, rfl⟩
  have tp := sm_te hn co1
  rw [← ht] at tp ⊢
  have fin_o : ∀ j, j ≠ 3 → (if k < 4 then pu4 t k 4 else t) j = t j := by
    intro j hj
    split
    · exact pu4_o _ _ hj _
    · rfl
  rcases tp with bd | ⟨nt, sb, sg, nu, V, c1, ⟨⟨a, kv⟩, kp1, kp3, kp10⟩, eR, tv⟩
  · exact Or.inr (bd_u bd (by rw [fin_o 0 (by decide)]) (fin_o 1 (by decide)))
  have Vo : ∀ j, j ≠ 44 → V j = τ j := fun j hj => by rw [kv, sA_ne _ _ hj]
  have V4 : V 44 4 = τ 44 4 := by rw [kv, sA_at]; rfl
  have eR2 : rtS τ = if rmT V then atS V (xb nt) sb sg nu else otm (atS V (xb nt) sb sg nu) (tkP τ) := by
    rw [eR]; unfold rt4; rw [if_pos c1.2.1]
  have at44 : atS V (xb nt) sb sg nu 44 = V 44 := atS_o _ _ _ _ _ (by decide) (by decide)
  have coAt : ∀ r, (∀ j, j ≠ 3 → r j = t j) → Co9 A n (atS V (xb nt) sb sg nu) r := fun r hr => ⟨cur_k c1.1 (by rw [at44]) (by rw [at44]) (atS_o _ _ _ _ _ (by decide) (by decide)) (atS_o _ _ _ _ _ (by decide) (by decide)) (fun i _ => by rw [hr 0 (by decide)]) (fun i _ => by rw [hr 1 (by decide)]), by rw [at44]; exact c1.2.1, by rw [hr 0 (by decide)]; exact c1.2.2⟩
  rcases hd with ⟨⟨z1, z2, z3, z4⟩, hL⟩ | ⟨z1, z2, z3⟩
  · -- clean
    have k4 := (z4.2.2.2.1 hL).2.1
    by_cases ck : k < 4
    · have es : s1 = s := by rw [hs1, if_neg (by omega)]
      rw [es] at kp1 kp3 kp10
      obtain ⟨rm, dt⟩ := dt_add z4 ck hL kp3 kp10 tv (Vo 100 (by decide)) (Vo 101 (by decide)) (Vo 102 (by decide)) (Vo 103 (by decide))
      rw [eR2, if_pos rm, if_pos ck]
      refine Or.inl ⟨coAt _ (fun j hj => pu4_o _ _ hj _), Or.inl ⟨⟨by rw [at44, V4]; exact z1, by rw [pu4_o _ _ (by decide), kp1]; exact z2, by rw [pu4_o _ _ (by decide), kp1]; exact z3, dt⟩, by rw [pu4_o _ _ (by decide), kp10]; exact hL⟩⟩
    · have ek : k = 4 := by omega
      have rm : ¬ rmT V := by
        unfold rmT
        rw [Vo 100 (by decide), Vo 102 (by decide), z4.1, (z4.2.2.2.1 hL).1]
        omega
      have eAt : atS V (xb nt) sb sg nu = V := by unfold atS; rw [if_neg rm]
      have es : s1 = u2 (u2 s 1 11 3) 1 12 (s 0 4) := by
        rw [hs1, if_pos (by omega)]
        unfold alS
        rw [if_neg (by have := co.2.2; omega)]
      have e11 : s1 1 11 = 3 := by rw [es, u2_o (by omega), u2_sA, sA_at, ua_at]
      have e12 : s1 1 12 = s 0 4 := by rw [es, u2_sA, sA_at, ua_at]
      rw [eR2, if_neg rm, eAt, if_neg ck]
      have eo : otm V (tkP τ) = sA V 44 (ua (V 44) 4 (tkP τ)) := by unfold otm; rw [if_pos (by omega)]
      rw [eo]
      refine Or.inl ⟨⟨cur_k c1.1 (by rw [sA_at]; rfl) (by rw [sA_at]; rfl) (sA_ne _ _ (by decide)) (sA_ne _ _ (by decide)) (fun i _ => rfl) (fun i _ => rfl), by rw [sA_at]; exact c1.2.1, c1.2.2⟩, Or.inr ⟨by rw [kp1]; exact e11, by rw [kp1, e12]; exact pl_nn hn co.1, ?_⟩⟩
      rw [sA_at, kp1, e12]
      exact co.1.2.2.2.1
  · -- many already
    have es : s1 = s := by
      rw [hs1]
      split
      · unfold alS; rw [if_pos (Or.inr (by omega))]
      · rfl
    rw [es] at kp1
    have eo : otm (atS V (xb nt) sb sg nu) (tkP τ) = atS V (xb nt) sb sg nu := by
      unfold otm
      rw [if_neg (by rw [at44, V4]; omega)]
    have eT : rtS τ = atS V (xb nt) sb sg nu := by
      rw [eR2, eo]
      split <;> rfl
    rw [eT]
    exact Or.inl ⟨coAt _ fin_o, Or.inr ⟨by rw [fin_o 1 (by decide), kp1]; exact z1, by rw [fin_o 1 (by decide), kp1]; exact z2, by rw [at44, V4, fin_o 1 (by decide), kp1]; exact z3⟩⟩
end ITS
