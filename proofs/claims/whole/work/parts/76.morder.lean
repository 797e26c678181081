/-! all orders come: sums over an image, the next order -/
theorem su9_z {f : Nat → Int} : ∀ n : Nat, (∀ i, i < n → f i = 0) → su9 f n = 0
  | 0, _ => rfl
  | n + 1, h => by
    show su9 f n + f n = 0
    rw [su9_z n (fun i q => h i (by omega)), h n (by omega)]; rfl
theorem su9_one : ∀ n : Nat, su9 (fun _ => 1) n = (n : Int)
  | 0 => rfl
  | n + 1 => by
    show su9 (fun _ => 1) n + 1 = _
    rw [su9_one n]; omega
noncomputable def im9 (O : Nat → Nat) (f : Nat → Int) (k : Nat) : Nat → Int := by
  classical
  exact fun x => if ∃ j, j < k ∧ O j = x then f x else 0
theorem im9_y {O : Nat → Nat} {f : Nat → Int} {k x : Nat} (h : ∃ j, j < k ∧ O j = x) : im9 O f k x = f x := by unfold im9; exact if_pos h
theorem im9_n {O : Nat → Nat} {f : Nat → Int} {k x : Nat} (h : ¬ ∃ j, j < k ∧ O j = x) : im9 O f k x = 0 := by unfold im9; exact if_neg h
theorem im_sum (f : Nat → Int) (O : Nat → Nat) (n : Nat) : ∀ k : Nat, (∀ i j, i < k → j < k → O i = O j → i = j) → (∀ i, i < k → O i < n) → su9 (fun j => f (O j)) k = su9 (im9 O f k) n
  | 0, _, _ => (su9_z n (fun i _ => im9_n (fun ⟨j, q, _⟩ => absurd q (Nat.not_lt_zero _)))).symm
  | k + 1, hi, hl => by
    show su9 (fun j => f (O j)) k + f (O k) = _
    rw [im_sum f O n k (fun i j a b => hi i j (by omega) (by omega)) (fun i a => hl i (by omega))]
    have hn : ¬ ∃ j, j < k ∧ O j = O k := fun ⟨j, q, e⟩ => by have := hi j k (by omega) (by omega) e; omega
    have e : su9 (im9 O f (k + 1)) n = su9 (ua (im9 O f k) (O k) (f (O k))) n := by
      refine su9_eq n (fun x q => ?_)
      unfold ua
      by_cases c : x = O k
      · rw [if_pos c, c]; exact im9_y ⟨k, by omega, rfl⟩
      · rw [if_neg c]
        by_cases g : ∃ j, j < k ∧ O j = x
        · rw [im9_y g]; exact im9_y (let ⟨j, a, b⟩ := g; ⟨j, by omega, b⟩)
        · rw [im9_n g]
          refine im9_n (fun ⟨j, a, b⟩ => g ⟨j, ?_, b⟩)
          have : j ≠ k := fun z => c (by rw [← b, z])
          omega
    rw [e, su9_ua, if_pos (hl k (by omega)), im9_n hn]
    omega
theorem im_surj {O : Nat → Nat} {n : Nat} (hi : ∀ i j, i < n → j < n → O i = O j → i = j) (hl : ∀ i, i < n → O i < n) : ∀ v, v < n → ∃ j, j < n ∧ O j = v := by
  intro v hv
  refine Classical.byContradiction fun q => ?_
  have a := im_sum (fun _ => 1) O n n hi hl
  rw [su9_one] at a
  have b : su9 (im9 O (fun _ => 1) n) n ≤ su9 (ua (fun _ => (1 : Int)) v 0) n := by
    refine su9_mono n (fun x _ => ?_)
    unfold ua
    by_cases c : x = v
    · rw [if_pos c, c, im9_n q]; omega
    · rw [if_neg c]
      by_cases g : ∃ j, j < n ∧ O j = x
      · rw [im9_y g]; exact Int.le_refl _
      · rw [im9_n g]; show (0 : Int) ≤ 1; omega
  rw [su9_ua, if_pos hv, su9_one] at b
  omega
/-- an order of n things -/
def pv9 (O : Nat → Int) (n : Nat) : Prop := (∀ j, j < n → 0 ≤ O j ∧ O j < (n : Int)) ∧ ∀ a b, a < n → b < n → O a = O b → a = b
theorem pv_surj {O : Nat → Int} {n : Nat} (h : pv9 O n) {v : Int} (hv : 0 ≤ v ∧ v < (n : Int)) : ∃ j, j < n ∧ O j = v := by
  obtain ⟨j, a, b⟩ := im_surj (O := fun j => (O j).toNat) (n := n) (fun i j hi hj e => h.2 i j hi hj (by have := h.1 i hi; have := h.1 j hj; have e2 : (O i).toNat = (O j).toNat := e; omega)) (fun i hi => by have := h.1 i hi; show (O i).toNat < n; omega) v.toNat (by omega)
  have := h.1 j a
  have b2 : (O j).toNat = v.toNat := b
  exact ⟨j, a, by omega⟩
theorem pv_sw {O : Nat → Int} {n a b : Nat} (h : pv9 O n) (ha : a < n) (hb : b < n) : pv9 (sw O a b) n := by
  refine ⟨fun j hj => ?_, fun u v hu hv => ?_⟩
  · rw [sw_v]
    split
    · exact h.1 a ha
    · split
      · exact h.1 b hb
      · exact h.1 j hj
  · rw [sw_v, sw_v]
    intro e
    have k1 := h.2 a v ha hv
    have k2 := h.2 u a hu ha
    have k3 := h.2 b v hb hv
    have k4 := h.2 u b hu hb
    have k5 := h.2 u v hu hv
    have k6 := h.2 a b ha hb
    have k7 := h.2 b a hb ha
    split at e
    · split at e
      · omega
      · split at e
        · have := k6 e; omega
        · have := k1 e; omega
    · split at e
      · split at e
        · have := k7 e; omega
        · split at e
          · omega
          · have := k3 e; omega
      · split at e
        · have := k2 e; omega
        · split at e
          · have := k4 e; omega
          · exact k5 e
theorem pv_rv {n : Nat} : ∀ (f : Nat) (a b : Int) (O : Nat → Int), pv9 O n → 0 ≤ a → b ≤ (n : Int) - 1 → pv9 (rv f a b O) n
  | 0, _, _, _, h, _, _ => h
  | f + 1, a, b, O, h, ha, hb => by
    unfold rv
    split
    · exact pv_rv f _ _ _ (pv_sw h (by omega) (by omega)) (by omega) (by omega)
    · exact h
theorem rv_v : ∀ (f : Nat) (a b : Int) (O : Nat → Int), 0 ≤ a → b - a ≤ 2 * (f : Int) → ∀ q : Nat, rv f a b O q = if a ≤ (q : Int) ∧ (q : Int) ≤ b then O (a + b - (q : Int)).toNat else O q
  | 0, a, b, O, ha, hf, q => by
    show O q = _
    split
    · rw [show (a + b - (q : Int)).toNat = q by omega]
    · rfl
  | f + 1, a, b, O, ha, hf, q => by
    unfold rv
    by_cases c : a < b
    · rw [if_pos c, rv_v f (a + 1) (b + -1) _ (by omega) (by omega) q]
      by_cases g : a + 1 ≤ (q : Int) ∧ (q : Int) ≤ b + -1
      · rw [if_pos g, if_pos (by omega), sw_v, if_neg (by omega), if_neg (by omega), show (a + 1 + (b + -1) - (q : Int)).toNat = (a + b - (q : Int)).toNat by omega]
      · rw [if_neg g, sw_v]
        by_cases e1 : q = b.toNat
        · rw [if_pos e1, if_pos (by omega), show (a + b - (q : Int)).toNat = a.toNat by omega]
        · rw [if_neg e1]
          by_cases e2 : q = a.toNat
          · rw [if_pos e2, if_pos (by omega), show (a + b - (q : Int)).toNat = b.toNat by omega]
          · rw [if_neg e2, if_neg (by omega)]
    · rw [if_neg c]
      split
      · rw [show (a + b - (q : Int)).toNat = q by omega]
      · rfl
def lx9 (O Q : Nat → Int) (n : Nat) : Prop := ∃ i, i < n ∧ (∀ q, q < i → O q = Q q) ∧ O i < Q i
def eq9 (O Q : Nat → Int) (n : Nat) : Prop := ∀ q, q < n → O q = Q q
theorem lx_tri (O Q : Nat → Int) : ∀ n : Nat, eq9 O Q n ∨ lx9 O Q n ∨ lx9 Q O n
  | 0 => Or.inl (fun q h => absurd h (Nat.not_lt_zero _))
  | n + 1 => by
    rcases lx_tri O Q n with h | ⟨i, h1, h2, h3⟩ | ⟨i, h1, h2, h3⟩
    · rcases Int.lt_trichotomy (O n) (Q n) with c | c | c
      · exact Or.inr (Or.inl ⟨n, by omega, h, c⟩)
      · refine Or.inl (fun q hq => ?_)
        by_cases e : q = n
        · rw [e]; exact c
        · exact h q (by omega)
      · exact Or.inr (Or.inr ⟨n, by omega, fun q hq => (h q hq).symm, c⟩)
    · exact Or.inr (Or.inl ⟨i, by omega, h2, h3⟩)
    · exact Or.inr (Or.inr ⟨i, by omega, h2, h3⟩)
theorem desc9 {O : Nat → Int} {n i : Nat} (h : ∀ q : Nat, i < q → q + 1 < n → O (q + 1) < O q) : ∀ m p : Nat, i < p → p + m < n → O (p + m) ≤ O p
  | 0, p, _, _ => Int.le_refl _
  | m + 1, p, h1, h2 => by
    have a := desc9 h m p h1 (by omega)
    have b := h (p + m) (by omega) (by omega)
    rw [show p + (m + 1) = p + m + 1 by omega]
    omega
/-- behind a falling rest no order is greater at a later place -/
theorem lx_no {O Q : Nat → Int} {n d : Nat} (hO : pv9 O n) (hQ : pv9 Q n) (hd : d < n) (ag : ∀ q, q < d → O q = Q q) (hdesc : ∀ m, d ≤ m → m < n → O m ≤ O d) : ¬ O d < Q d := by
  intro h
  obtain ⟨m, m1, m2⟩ := pv_surj hO (hQ.1 d hd)
  by_cases c : m < d
  · have := hQ.2 m d m1 hd (by rw [← ag m c, m2]); omega
  · have := hdesc m (by omega) m1
    rw [m2] at this
    omega
theorem ro_next {O Q : Nat → Int} {n : Nat} (hp : pm9 O n) (hn : n ≤ 7) (hO : pv9 O n) (hQ : pv9 Q n) (hi : 0 ≤ ro1 O n) (h : lx9 O Q n) : pv9 (ro3 O n) n ∧ (eq9 (ro3 O n) Q n ∨ lx9 (ro3 O n) Q n) := by
  obtain ⟨i, j, e1, e2, e3, e4, e5, e6, e7⟩ := ro_f hp hn hi
  have pR : pv9 (ro3 O n) n := by rw [e7]; exact pv_rv _ _ _ _ (pv_sw hO (by omega) e3) (by omega) (by omega)
  have vR : ∀ q : Nat, q < n → ro3 O n q = if q < i then O q else if q = i then O j else sw O i j (i + n - q) := by
    intro q hq
    rw [e7, rv_v _ _ _ _ (by omega) (by omega) q]
    by_cases c : (i : Int) + 1 ≤ (q : Int) ∧ (q : Int) ≤ (n : Int) - 1
    · rw [if_pos c, if_neg (by omega), if_neg (by omega), show ((i : Int) + 1 + ((n : Int) - 1) - (q : Int)).toNat = i + n - q by omega]
    · rw [if_neg c, sw_v]
      by_cases c1 : q = j
      · omega
      · rw [if_neg c1]
        by_cases c2 : q = i
        · rw [if_pos c2, if_neg (by omega), if_pos c2]
        · rw [if_neg c2, if_pos (by omega)]
  have asc : ∀ p q : Nat, i < p → p < q → q < n → ro3 O n p < ro3 O n q := by
    have step : ∀ p : Nat, i < p → p + 1 < n → ro3 O n p < ro3 O n (p + 1) := by
      intro p h1 h2
      rw [vR p (by omega), vR (p + 1) h2, if_neg (by omega), if_neg (by omega), if_neg (by omega), if_neg (by omega), show i + n - p = (i + n - (p + 1)) + 1 by omega]
      generalize hr : i + n - (p + 1) = r
      rw [sw_v, sw_v]
      by_cases c1 : r + 1 = j
      · rw [if_pos c1, if_neg (by omega), if_neg (by omega)]
        have := e5 r (by omega) (by omega)
        rw [c1] at this
        omega
      · rw [if_neg c1, if_neg (by omega)]
        by_cases c2 : r = j
        · rw [if_pos c2]
          have := e6 (r + 1) (by omega) (by omega)
          exact this
        · rw [if_neg c2, if_neg (by omega)]
          exact e5 r (by omega) (by omega)
    intro p q h1 h2 h3
    obtain ⟨m, rfl⟩ : ∃ m, q = p + 1 + m := ⟨q - (p + 1), by omega⟩
    induction m with
    | zero => exact step p h1 h3
    | succ m ih => exact Int.lt_trans (ih (by omega) (by omega)) (step (p + 1 + m) (by omega) (by omega))
  refine ⟨pR, ?_⟩
  obtain ⟨d, d1, d2, d3⟩ := h
  rcases Nat.lt_trichotomy d i with c | c | c
  · refine Or.inr ⟨d, d1, fun q hq => ?_, ?_⟩
    · rw [vR q (by omega), if_pos (by omega)]; exact d2 q hq
    · rw [vR d d1, if_pos c]; exact d3
  · subst c
    obtain ⟨m, m1, m2⟩ := pv_surj hO (hQ.1 d d1)
    have md : d < m := by
      rcases Nat.lt_trichotomy m d with z | z | z
      · have := hQ.2 m d m1 d1 (by rw [← d2 m z, m2]); omega
      · rw [z] at m2; omega
      · exact z
    have mj : m ≤ j := by
      refine Nat.le_of_not_lt (fun z => ?_)
      have := e6 m z m1
      omega
    have ge : O j ≤ O m := by
      have := desc9 e5 (j - m) m md (by omega)
      rwa [show m + (j - m) = j by omega] at this
    have Rd : ro3 O n d = O j := by rw [vR d d1, if_neg (by omega), if_pos rfl]
    have low : ∀ q, q < d → ro3 O n q = Q q := fun q hq => by rw [vR q (by omega), if_pos hq]; exact d2 q hq
    by_cases mj2 : O j < Q d
    · exact Or.inr ⟨d, d1, low, by rw [Rd]; exact mj2⟩
    · have eqd : ro3 O n d = Q d := by rw [Rd]; omega
      rcases lx_tri (ro3 O n) Q n with z | z | ⟨p, p1, p2, p3⟩
      · exact Or.inl z
      · exact Or.inr z
      · exfalso
        have pd : d < p := by
          rcases Nat.lt_trichotomy p d with z | z | z
          · rw [low p z] at p3; omega
          · rw [z, eqd] at p3; omega
          · exact z
        obtain ⟨r, r1, r2⟩ := pv_surj pR (hQ.1 p p1)
        by_cases rp : r < p
        · have := hQ.2 r p r1 p1 (by rw [p2 r rp, r2]); omega
        · by_cases rq : r = p
          · rw [rq] at r2; omega
          · have := asc p r pd (by omega) r1
            rw [r2] at this
            omega
  · exact absurd d3 (lx_no hO hQ d1 d2 (fun m a b => by
      have := desc9 e5 (m - d) d c (by omega)
      rwa [show d + (m - d) = m by omega] at this))
theorem ro_last {O Q : Nat → Int} {n : Nat} (hO : pv9 O n) (hQ : pv9 Q n) (hi : ro1 O n < 0) : ¬ lx9 O Q n := by
  rintro ⟨d, d1, d2, d3⟩
  by_cases h2 : n < 2
  · have d0 : d = 0 := by omega
    subst d0
    have a := hO.1 0 d1
    have b := hQ.1 0 d1
    omega
  have r := ri_r O ((n : Int) - 1).toNat ((n : Int) - 2) (by omega) (by omega)
  have e1 : ro1 O n = ri O ((n : Int) - 1).toNat ((n : Int) - 2) := rfl
  rw [← e1] at r
  have em : ro1 O n = -1 := by omega
  have all : ∀ q : Nat, q + 1 < n → O (q + 1) < O q := by
    intro q hq
    have := r.2.2.2 (q : Int) (by omega) (by omega)
    rwa [show ((q : Int) + 1).toNat = q + 1 by omega, Int.toNat_natCast] at this
  have des : ∀ m p : Nat, p + m < n → O (p + m) ≤ O p := by
    intro m
    induction m with
    | zero => intro p _; exact Int.le_refl _
    | succ m ih =>
      intro p h
      have a := ih p (by omega)
      have b := all (p + m) (by omega)
      rw [show p + (m + 1) = p + m + 1 by omega]
      omega
  exact lx_no hO hQ d1 d2 (fun m a b => by
    have := des (m - d) d (by omega)
    rwa [show d + (m - d) = m by omega] at this) d3
theorem id_first {Q O : Nat → Int} {n : Nat} (hn : n ≤ 7) (hQ : pv9 Q n) : eq9 (id9 O 7) Q n ∨ lx9 (id9 O 7) Q n := by
  rcases lx_tri (id9 O 7) Q n with z | z | ⟨d, d1, d2, d3⟩
  · exact Or.inl z
  · exact Or.inr z
  · exfalso
    rw [id9_v O 7 (by omega)] at d3
    have a := hQ.1 d d1
    obtain ⟨m, hm⟩ : ∃ m : Nat, Q d = (m : Int) := ⟨(Q d).toNat, by omega⟩
    have b := d2 m (by omega)
    rw [id9_v O 7 (by omega)] at b
    have := hQ.2 m d (by omega) d1 (by rw [b, hm])
    omega
/-! an order counts only as far as it has things -/
theorem be9_o {A Y W P O Q G : Nat → Int} {n k : Nat} (h : eq9 O Q n) (hk : k < n) (fr : Int) : be9 A Y W P O G n k fr = be9 A Y W P Q G n k fr := by
  have ei : ∀ (x : Nat) (t : Int) (j : Nat), j ≤ n → in9 Y W P O G x k t j = in9 Y W P Q G x k t j := by
    intro x t j
    induction j with
    | zero => intro _; rfl
    | succ j ih =>
      intro hj
      unfold in9 di9
      rw [ih (by omega), h j (by omega)]
  have es : ∀ (x : Nat) (t : Int) (j : Nat), j ≤ n → so9 W P O G x k t j = so9 W P Q G x k t j := by
    intro x t j
    induction j with
    | zero => intro _; rfl
    | succ j ih =>
      intro hj
      unfold so9
      rw [ih (by omega), h j (by omega)]
  have eb : ∀ (x f : Nat) (t : Int), bg9 A Y W P O G n x k f t = bg9 A Y W P Q G n x k f t := by
    intro x f
    induction f with
    | zero => intro t; rfl
    | succ f ih =>
      intro t
      unfold bg9
      rw [ei x t n (Nat.le_refl _), es x t n (Nat.le_refl _), ih]
  unfold be9
  rw [h k hk, eb]
theorem sx9_o {A Y W P O Q : Nat → Int} {n hs : Nat} (h : eq9 O Q n) : ∀ (r k : Nat) (G F : Nat → Int) (last dn : Int), r + k ≤ n → sx9 A Y W P O n hs r k G F last dn = sx9 A Y W P Q n hs r k G F last dn
  | 0, _, _, _, _, _, _ => rfl
  | r + 1, k, G, F, last, dn, hr => by
    unfold sx9 du9
    rw [be9_o h (by omega), h k (by omega), sx9_o h r (k + 1) _ _ _ _ (by omega)]
/-- the least over all orders is at most each order's -/
theorem ls_all {A Y W P : Nat → Int} {n hs : Nat} (hn : n ≤ 7) (hind : ∀ (O G G2 F F2 : Nat → Int), pv9 O n → (sx9 A Y W P O n hs n 0 G (zt F 3) 0 0).1 = (sx9 A Y W P O n hs n 0 G2 (zt F2 3) 0 0).1) : ∀ (f : Nat) (b : Int) (O G F : Nat → Int), pm9 O n → pv9 O n → 2097151 - vl7 O < (f : Int) → -1 ≤ b → ((ls9 A Y W P n hs f b O G F).1 = b ∨ ∃ Q, pv9 Q n ∧ 0 ≤ (ls9 A Y W P n hs f b O G F).1 ∧ ∀ G2 F2, (ls9 A Y W P n hs f b O G F).1 = (sx9 A Y W P Q n hs n 0 G2 (zt F2 3) 0 0).1) ∧ (0 ≤ b → 0 ≤ (ls9 A Y W P n hs f b O G F).1 ∧ (ls9 A Y W P n hs f b O G F).1 ≤ b) ∧ ∀ Q G2 F2, pv9 Q n → (eq9 O Q n ∨ lx9 O Q n) → 0 ≤ (sx9 A Y W P Q n hs n 0 G2 (zt F2 3) 0 0).1 → 0 ≤ (ls9 A Y W P n hs f b O G F).1 ∧ (ls9 A Y W P n hs f b O G F).1 ≤ (sx9 A Y W P Q n hs n 0 G2 (zt F2 3) 0 0).1
  | 0, b, O, G, F, hp, hv, hf, hb => by have := vl_r hp; omega
  | f + 1, b, O, G, F, hp, hv, hf, hb => by
    have vi : ∀ G2 F2, (sx9 A Y W P O n hs n 0 G (zt F 3) 0 0).1 = (sx9 A Y W P O n hs n 0 G2 (zt F2 3) 0 0).1 := fun G2 F2 => hind O G G2 F F2 hv
    have qo : ∀ Q G2 F2, eq9 O Q n → (sx9 A Y W P Q n hs n 0 G2 (zt F2 3) 0 0).1 = (sx9 A Y W P O n hs n 0 G (zt F 3) 0 0).1 := fun Q G2 F2 e => by rw [← sx9_o e n 0 G2 (zt F2 3) 0 0 (by omega)]; exact (vi G2 F2).symm
    have lb : -1 ≤ lb9 b (sx9 A Y W P O n hs n 0 G (zt F 3) 0 0).1 := by unfold lb9; split <;> omega
    unfold ls9
    by_cases c : 0 ≤ ro1 O n
    · rw [if_pos c]
      have rp := ro_p hp hn c
      have pv3 : pv9 (ro3 O n) n := by
        obtain ⟨i, j, e1, e2, e3, e4, e5, e6, e7⟩ := ro_f hp hn c
        rw [e7]; exact pv_rv _ _ _ _ (pv_sw hv (by omega) e3) (by omega) (by omega)
      obtain ⟨a1, a2, a3⟩ := ls_all hn hind f (lb9 b (sx9 A Y W P O n hs n 0 G (zt F 3) 0 0).1) (ro3 O n) (sx9 A Y W P O n hs n 0 G (zt F 3) 0 0).2.1 (sx9 A Y W P O n hs n 0 G (zt F 3) 0 0).2.2 rp.1 pv3 (by omega) lb
      generalize (ls9 A Y W P n hs f (lb9 b (sx9 A Y W P O n hs n 0 G (zt F 3) 0 0).1) (ro3 O n) (sx9 A Y W P O n hs n 0 G (zt F 3) 0 0).2.1 (sx9 A Y W P O n hs n 0 G (zt F 3) 0 0).2.2).1 = R at *
      refine ⟨?_, fun h0 => ?_, fun Q G2 F2 pQ hQ h0 => ?_⟩
      · rcases a1 with z | z
        · unfold lb9 at z
          split at z
          · next g => exact Or.inr ⟨O, hv, by omega, fun G2 F2 => z.trans (vi G2 F2)⟩
          · exact Or.inl z
        · exact Or.inr z
      · have : 0 ≤ lb9 b (sx9 A Y W P O n hs n 0 G (zt F 3) 0 0).1 ∧ lb9 b (sx9 A Y W P O n hs n 0 G (zt F 3) 0 0).1 ≤ b := by unfold lb9; split <;> omega
        have := a2 this.1
        omega
      · rcases hQ with hQ | hQ
        · rw [qo Q G2 F2 hQ] at h0 ⊢
          have : 0 ≤ lb9 b (sx9 A Y W P O n hs n 0 G (zt F 3) 0 0).1 ∧ lb9 b (sx9 A Y W P O n hs n 0 G (zt F 3) 0 0).1 ≤ (sx9 A Y W P O n hs n 0 G (zt F 3) 0 0).1 := by unfold lb9; split <;> omega
          have := a2 this.1
          omega
        · exact a3 Q G2 F2 pQ (ro_next hp hn hv pQ c hQ).2 h0
    · rw [if_neg c]
      refine ⟨?_, fun h0 => ?_, fun Q G2 F2 pQ hQ h0 => ?_⟩
      · show lb9 b (sx9 A Y W P O n hs n 0 G (zt F 3) 0 0).1 = b ∨ _
        unfold lb9
        split
        · next g => exact Or.inr ⟨O, hv, g.1, fun G2 F2 => vi G2 F2⟩
        · exact Or.inl rfl
      · show 0 ≤ lb9 b _ ∧ lb9 b _ ≤ b
        unfold lb9; split <;> omega
      · rcases hQ with hQ | hQ
        · rw [qo Q G2 F2 hQ] at h0 ⊢
          show 0 ≤ lb9 b _ ∧ lb9 b _ ≤ _
          unfold lb9; split <;> omega
        · exact absurd hQ (ro_last hv pQ (by omega))
