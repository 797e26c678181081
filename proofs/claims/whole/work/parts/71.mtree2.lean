/-! the class's trees against the wires -/
abbrev ea9 (A : Nat → Int) (w : Nat) : Nat := (A (30 + 4 * w + 0)).toNat
abbrev eb9 (A : Nat → Int) (w : Nat) : Nat := (A (30 + 4 * w + 1)).toNat
abbrev ec9 (A : Nat → Int) (w : Nat) : Int := A (30 + 4 * w + 2) * 4096 + 2 ^ w
abbrev st8 (tw t : Nat) : Prop := tw.testBit t = true
abbrev al9 (A K : Nat → Int) (tw w : Nat) : Prop := (st8 tw (ea9 A w) ∧ st8 tw (eb9 A w)) ∧ K w < A (30 + 4 * w + 3)
theorem sub9q {x m : Nat} : x &&& m = x ↔ ∀ i, x.testBit i = true → m.testBit i = true := by
  constructor
  · intro h i hi
    rw [← h, Nat.testBit_and] at hi
    exact (Bool.and_eq_true _ _ ▸ hi : _ ∧ _).2
  · intro h
    refine Nat.eq_of_testBit_eq (fun i => ?_)
    rw [Nat.testBit_and]
    cases e : x.testBit i with
    | false => rfl
    | true => rw [h i e]; rfl
theorem wb_bit (A : Nat → Int) (w i : Nat) : (wb A w).testBit i = true ↔ (ea9 A w = i ∨ eb9 A w = i) := by
  unfold wb
  rw [Nat.testBit_or, Nat.testBit_two_pow, Nat.testBit_two_pow, Bool.or_eq_true, decide_eq_true_iff, decide_eq_true_iff]
theorem wb_in {A : Nat → Int} {w m : Nat} : wb A w &&& m = wb A w ↔ (st8 m (ea9 A w) ∧ st8 m (eb9 A w)) := by
  rw [sub9q]
  constructor
  · intro h
    exact ⟨h _ ((wb_bit A w _).2 (Or.inl rfl)), h _ ((wb_bit A w _).2 (Or.inr rfl))⟩
  · intro h i hi
    rcases (wb_bit A w i).1 hi with e | e
    · rw [← e]; exact h.1
    · rw [← e]; exact h.2
theorem wb_in2 {A : Nat → Int} {w m : Nat} : m &&& wb A w = wb A w ↔ (st8 m (ea9 A w) ∧ st8 m (eb9 A w)) := by
  rw [Nat.and_comm]; exact wb_in
theorem bit_int (x t : Nat) : ((x : Nat) : Int) / 2 ^ t % 2 ^ 1 = 1 ↔ x.testBit t = true := by
  rw [Nat.testBit_eq_decide_div_mod_eq, decide_eq_true_iff]
  have e : ((x : Nat) : Int) / 2 ^ t % 2 ^ 1 = ((x / 2 ^ t % 2 : Nat) : Int) := by
    first | (rw [Int.natCast_emod, Int.natCast_ediv, Int.natCast_pow]; rfl) | (push_cast; rfl) | simp
  rw [e]; omega
theorem low9 : ∀ a : Nat, a < 256 → 0 < a → ((List.range 8).any fun t => a.testBit t && (a &&& (4096 - a)) == 2 ^ t) = true := by decide +kernel
theorem low9e {a : Nat} (h : a < 256) (h0 : 0 < a) : ∃ t, t < 8 ∧ a.testBit t = true ∧ (a &&& (4096 - a)) = 2 ^ t := by
  have k := low9 a h h0
  rw [List.any_eq_true] at k
  obtain ⟨t, q1, q2⟩ := k
  rw [Bool.and_eq_true, beq_iff_eq] at q2
  exact ⟨t, List.mem_range.mp q1, q2.1, q2.2⟩
/-- the parts say what hangs together by C -/
def pi8 (A : Nat → Int) (P : Nat → Int) (C : Nat → Prop) : Prop := (∀ t, t < 8 → 0 ≤ P t ∧ P t < 256) ∧ ∀ t u, t < 8 → u < 8 → (st8 (P t).toNat u ↔ cn9 (ea9 A) (eb9 A) C t u)
theorem pi8_0 (A P0 : Nat → Int) : pi8 A (pi9 P0 8) (fun _ => False) := by
  refine ⟨pi9_r P0, fun t u ht hu => ?_⟩
  rw [pi9_lt P0 8 t ht]
  have e : ((2 : Int) ^ t).toNat = 2 ^ t := by
    have : (2 : Int) ^ t = ((2 ^ t : Nat) : Int) := by rw [Int.natCast_pow]; rfl
    rw [this, Int.toNat_natCast]
  show ((2 : Int) ^ t).toNat.testBit u = true ↔ _
  rw [e, Nat.testBit_two_pow, decide_eq_true_iff]
  constructor
  · intro h; rw [h]; exact cn9.refl
  · intro h; exact (h (fun z => z = t) (fun w hw => hw.elim) rfl).symm
theorem pi8_j {A P : Nat → Int} {C : Nat → Prop} {e : Nat} (ha : ea9 A e < 8) (hb : eb9 A e < 8) (h : pi8 A P C) : pi8 A (jp9 P ((P (ea9 A e)).toNat ||| (P (eb9 A e)).toNat) 8) (fun w => C w ∨ w = e) := by
  obtain ⟨h1, h2⟩ := h
  have ra := h1 _ ha
  have rb := h1 _ hb
  have hx : (P (ea9 A e)).toNat ||| (P (eb9 A e)).toNat < 256 := Nat.or_lt_two_pow (n := 8) (by omega) (by omega)
  have bx : ∀ u, u < 8 → (st8 ((P (ea9 A e)).toNat ||| (P (eb9 A e)).toNat) u ↔ (cn9 (ea9 A) (eb9 A) C (ea9 A e) u ∨ cn9 (ea9 A) (eb9 A) C (eb9 A e) u)) := fun u hu => by
    show ((P (ea9 A e)).toNat ||| (P (eb9 A e)).toNat).testBit u = true ↔ _
    rw [Nat.testBit_or, Bool.or_eq_true]
    exact ⟨fun q => q.elim (fun q => Or.inl ((h2 _ u ha hu).1 q)) (fun q => Or.inr ((h2 _ u hb hu).1 q)), fun q => q.elim (fun q => Or.inl ((h2 _ u ha hu).2 q)) (fun q => Or.inr ((h2 _ u hb hu).2 q))⟩
  refine ⟨jp9_r hx h1 8, fun t u ht hu => ?_⟩
  have ed : cn9 (ea9 A) (eb9 A) (fun w => C w ∨ w = e) (ea9 A e) (eb9 A e) := cn9.edge (T := fun w => C w ∨ w = e) (Or.inr rfl)
  have mo : ∀ {p q : Nat}, cn9 (ea9 A) (eb9 A) C p q → cn9 (ea9 A) (eb9 A) (fun w => C w ∨ w = e) p q := fun z => z.mono (fun w hw => Or.inl hw)
  rw [jp9_v]
  by_cases g : st8 ((P (ea9 A e)).toNat ||| (P (eb9 A e)).toNat) t
  · rw [if_pos ⟨ht, (bit_int _ t).2 g⟩, Int.toNat_natCast, bx u hu]
    have gt := (bx t ht).1 g
    constructor
    · intro q
      rcases gt with gt | gt <;> rcases q with q | q
      · exact (mo gt).symm.tr (mo q)
      · exact ((mo gt).symm.tr ed).tr (mo q)
      · exact ((mo gt).symm.tr ed.symm).tr (mo q)
      · exact (mo gt).symm.tr (mo q)
    · intro q
      rcases q.add with z | z | z
      · exact gt.elim (fun gt => Or.inl (gt.tr z)) (fun gt => Or.inr (gt.tr z))
      · exact Or.inr z.2
      · exact Or.inl z.2
  · rw [if_neg (fun z => g ((bit_int _ t).1 z.2)), h2 t u ht hu]
    constructor
    · exact mo
    · intro q
      rcases q.add with z | z | z
      · exact z
      · exact absurd ((bx t ht).2 (Or.inl z.1.symm)) g
      · exact absurd ((bx t ht).2 (Or.inr z.1.symm)) g
theorem ct9_add {c : Nat → Int} {T : Nat → Prop} {n e : Nat} (he : e < n) (hT : ¬ T e) : ct9 c (fun w => T w ∨ w = e) n = ct9 c T n + c e := by
  classical
  have e1 : ct9 c (fun w => T w ∨ w = e) n = su9 (ua (fun w => if T w then c w else 0) e (c e)) n := by
    unfold ct9
    refine su9_eq n (fun i q => ?_)
    unfold ua
    by_cases i1 : i = e
    · rw [if_pos (Or.inr i1), if_pos i1, i1]
    · rw [if_neg i1]
      by_cases i3 : T i
      · rw [if_pos (Or.inl i3)]; exact (if_pos i3).symm
      · rw [if_neg (fun z => z.elim i3 i1)]; exact (if_neg i3).symm
  rw [e1, su9_ua, if_pos he, if_neg hT]
  unfold ct9
  omega
theorem ct9_0 {c : Nat → Int} : ∀ n : Nat, ct9 c (fun _ => False) n = 0 := by
  classical
  intro n
  unfold ct9
  induction n with
  | zero => rfl
  | succ n ih =>
    show su9 _ n + _ = 0
    rw [ih]; simp
/-- what the search for a tree holds after some wires -/
def wqI (A K O : Nat → Int) (tw k : Nat) (s : (Nat → Int) × Int × Nat) : Prop := ∃ C, krI (ea9 A) (eb9 A) (fun i => (O i).toNat) (ec9 A) (A 1).toNat (al9 A K tw) (st8 tw) k C ∧ pi8 A s.1 C ∧ s.2.1 = ct9 (ec9 A) C (A 1).toNat ∧ ∃ t, t < 8 ∧ st8 tw t ∧ s.2.2 = (s.1 t).toNat
def ord9 (A O : Nat → Int) : Prop := (∀ i : Nat, (i : Int) < A 1 → 0 ≤ O i ∧ O i < A 1) ∧ (∀ i j : Nat, i < j → (j : Int) < A 1 → lt9q A (O i) (O j)) ∧ ∀ v : Nat, (v : Int) < A 1 → ∃ i : Nat, (i : Int) < A 1 ∧ O i = (v : Int)
theorem ord9_i {A O : Nat → Int} (h : ord9 A O) : ∀ i j, i < (A 1).toNat → j < (A 1).toNat → (O i).toNat = (O j).toNat → i = j := by
  intro i j hi hj e
  have ri := h.1 i (by omega)
  have rj := h.1 j (by omega)
  have e2 : O i = O j := by omega
  rcases Nat.lt_trichotomy i j with q | q | q
  · have := h.2.1 i j q (by omega)
    rw [e2] at this
    unfold lt9q at this
    omega
  · exact q
  · have := h.2.1 j i q (by omega)
    rw [e2] at this
    unfold lt9q at this
    omega
theorem ec9_lt {A : Nat → Int} (h12 : A 1 ≤ 12) {u v : Int} (hu : 0 ≤ u ∧ u < A 1) (hv : 0 ≤ v ∧ v < A 1) (h : lt9q A u v) : ec9 A u.toNat ≤ ec9 A v.toNat := by
  have pu := p2_le u.toNat 11 (by omega)
  have pv := p2_le v.toNat 11 (by omega)
  show A (30 + 4 * u.toNat + 2) * 4096 + 2 ^ u.toNat ≤ A (30 + 4 * v.toNat + 2) * 4096 + 2 ^ v.toNat
  rcases h with h | h
  · omega
  · have := p2_le u.toNat v.toNat (by omega)
    omega
theorem ec9_0 {A : Nat → Int} (hwi : wi A) : ∀ w, w < (A 1).toNat → 0 ≤ ec9 A w := by
  intro w h
  have a := hwi w (by omega)
  have b := p2_le w w (Nat.le_refl _)
  show 0 ≤ A (30 + 4 * w + 2) * 4096 + 2 ^ w
  omega
theorem wqI_0 {A K O P0 : Nat → Int} {tw : Nat} (h8 : tw < 256) (h0 : 0 < tw) : wqI A K O tw 0 (pi9 P0 8, 0, tw &&& (4096 - tw)) := by
  obtain ⟨t, t1, t2, t3⟩ := low9e h8 h0
  refine ⟨fun _ => False, krI_0, pi8_0 A P0, (ct9_0 _).symm, t, t1, t2, ?_⟩
  show tw &&& (4096 - tw) = (pi9 P0 8 t).toNat
  rw [t3, pi9_lt P0 8 t t1]
  have : (2 : Int) ^ t = ((2 ^ t : Nat) : Int) := by rw [Int.natCast_pow]; rfl
  rw [this, Int.toNat_natCast]
theorem wqI_s {A K O : Nat → Int} (hc : cn A) (hwi : wi A) (hO : ord9 A O) {tw k : Nat} (hk : (k : Int) < A 1) {s : (Nat → Int) × Int × Nat} (h : wqI A K O tw k s) : wqI A K O tw (k + 1) (wqS A K tw (O k).toNat s) := by
  obtain ⟨C, kI, pI8, wI, t, t1, t2, t3⟩ := h
  have ro := hO.1 k hk
  have hi := ord9_i hO
  have hw := hwi (O k).toNat (by omega)
  have ha : ea9 A (O k).toNat < 8 := by show (A _).toNat < 8; omega
  have hb : eb9 A (O k).toNat < 8 := by show (A _).toNat < 8; omega
  have cond : (wb A (O k).toNat &&& tw = wb A (O k).toNat ∧ ¬ (s.1 (A (30 + 4 * (O k).toNat + 0)).toNat).toNat &&& wb A (O k).toNat = wb A (O k).toNat) ∧ K (O k).toNat < A (30 + 4 * (O k).toNat + 3) ↔ (al9 A K tw (O k).toNat ∧ ¬ cn9 (ea9 A) (eb9 A) C (ea9 A (O k).toNat) (eb9 A (O k).toNat)) := by
    rw [wb_in, wb_in2]
    have q1 := pI8.2 _ _ ha ha
    have q2 := pI8.2 _ _ ha hb
    constructor
    · rintro ⟨⟨z1, z2⟩, z3⟩
      exact ⟨⟨z1, z3⟩, fun z => z2 ⟨q1.2 cn9.refl, q2.2 z⟩⟩
    · rintro ⟨⟨z1, z3⟩, z2⟩
      exact ⟨⟨z1, fun z => z2 (q2.1 z.2)⟩, z3⟩
  unfold wqS
  by_cases g : (wb A (O k).toNat &&& tw = wb A (O k).toNat ∧ ¬ (s.1 (A (30 + 4 * (O k).toNat + 0)).toNat).toNat &&& wb A (O k).toNat = wb A (O k).toNat) ∧ K (O k).toNat < A (30 + 4 * (O k).toNat + 3)
  · rw [if_pos g]
    obtain ⟨g1, g2⟩ := cond.1 g
    have kI2 := krI_yes hi (fun i q => by have := hO.1 i (by omega); omega) (fun v q => by
        obtain ⟨i, i1, i2⟩ := hO.2.2 v (by omega)
        exact ⟨i, by omega, by show (O i).toNat = v; omega⟩) (fun i j q q2 => ec9_lt (by omega) (hO.1 i (by omega)) (hO.1 j (by omega)) (hO.2.1 i j q (by omega))) (by omega) kI g1 g1.1.1 g1.1.2 g2
    refine ⟨_, kI2, pi8_j ha hb pI8, ?_, ea9 A (O k).toNat, ha, g1.1.1, ?_⟩
    · show s.2.1 + (A (30 + 4 * (O k).toNat + 2) * 4096 + 2 ^ (O k).toNat) = _
      rw [wI]
      exact (ct9_add (by omega) (krI_C hi (by omega) kI)).symm
    · show _ = (jp9 s.1 ((s.1 (ea9 A (O k).toNat)).toNat ||| (s.1 (eb9 A (O k).toNat)).toNat) 8 (ea9 A (O k).toNat)).toNat
      have hbit : ((s.1 (ea9 A (O k).toNat)).toNat ||| (s.1 (eb9 A (O k).toNat)).toNat).testBit (ea9 A (O k).toNat) = true := by
        rw [Nat.testBit_or, Bool.or_eq_true]
        exact Or.inl ((pI8.2 _ _ ha ha).2 cn9.refl)
      rw [jp9_v, if_pos ⟨ha, (bit_int _ _).2 hbit⟩, Int.toNat_natCast]
  · rw [if_neg g]
    refine ⟨C, ?_, pI8, wI, t, t1, t2, t3⟩
    by_cases z : al9 A K tw (O k).toNat
    · exact krI_sk hi (ec9_0 hwi) (by omega) kI (Classical.byContradiction fun q => g (cond.2 ⟨z, q⟩))
    · exact krI_no hi (by omega) kI z
theorem wqT_I {A K O P0 : Nat → Int} (hc : cn A) (hwi : wi A) (hO : ord9 A O) {tw : Nat} {lim : Int} (h8 : tw < 256) (h0 : 0 < tw) : ∀ k : Nat, (k : Int) ≤ A 1 → ∃ k', k' ≤ k ∧ wqI A K O tw k' (wqT A K O tw lim P0 k) ∧ (k' = k ∨ (wqT A K O tw lim P0 k).2.2 = tw ∨ lim ≤ (wqT A K O tw lim P0 k).2.1)
  | 0, _ => ⟨0, Nat.le_refl _, wqI_0 h8 h0, Or.inl rfl⟩
  | k + 1, hk => by
    obtain ⟨k', q1, q2, q3⟩ := wqT_I (lim := lim) (P0 := P0) (K := K) hc hwi hO h8 h0 k (by omega)
    unfold wqT
    split
    · next g => exact ⟨k', by omega, q2, Or.inr g⟩
    · next g =>
      have : k' = k := by
        rcases q3 with q | q | q
        · exact q
        · exact absurd (Or.inl q) g
        · exact absurd (Or.inr q) g
      subst this
      exact ⟨k' + 1, Nat.le_refl _, wqI_s hc hwi hO (by omega) q2, Or.inl rfl⟩
abbrev tree9 (A K : Nat → Int) (tw : Nat) (Y : Nat → Prop) : Prop := krF (ea9 A) (eb9 A) (A 1).toNat (al9 A K tw) (st8 tw) Y
theorem wqR_1 {A K O P0 : Nat → Int} (hc : cn A) (hwi : wi A) (hO : ord9 A O) {tw : Nat} {lim : Int} (h8 : tw < 256) (h0 : 0 < tw) (h : wqR tw (wqT A K O tw lim P0 (A 1).toNat) < 1000000000) : ∃ X, tree9 A K tw X ∧ ct9 (ec9 A) X (A 1).toNat = wqR tw (wqT A K O tw lim P0 (A 1).toNat) := by
  obtain ⟨k', q1, ⟨C, kI, pI8, wI, t, t1, t2, t3⟩, q3⟩ := wqT_I (lim := lim) (P0 := P0) (K := K) hc hwi hO h8 h0 (A 1).toNat (by omega)
  unfold wqR at h ⊢
  by_cases g : (wqT A K O tw lim P0 (A 1).toNat).2.2 = tw
  · rw [if_pos g]
    refine ⟨C, ⟨fun w hw => ⟨(kI.1 w hw).1, ?_⟩, fun x y hx hy => ?_⟩, wI.symm⟩
    · obtain ⟨i, i1, i2⟩ := (kI.1 w hw).2
      have := hO.1 i (by omega)
      have i3 : (O i).toNat = w := i2
      omega
    · have rg : ∀ z, st8 tw z → z < 8 := fun z hz => Classical.byContradiction fun q => by
        have hz2 : tw.testBit z = true := hz
        rw [Nat.testBit_lt_two_pow (Nat.lt_of_lt_of_le h8 (Nat.pow_le_pow_right (n := 2) (by decide) (by omega : 8 ≤ z)))] at hz2
        cases hz2
      have ct : ∀ z, st8 tw z → cn9 (ea9 A) (eb9 A) C t z := fun z hz => (pI8.2 t z t1 (rg z hz)).1 (by rw [← t3, g]; exact hz)
      exact (ct x hx).symm.tr (ct y hy)
  · rw [if_neg g] at h; omega
theorem wqR_2 {A K O P0 : Nat → Int} (hc : cn A) (hwi : wi A) (hO : ord9 A O) {tw : Nat} {lim : Int} (h8 : tw < 256) (h0 : 0 < tw) {Y : Nat → Prop} (hY : tree9 A K tw Y) : lim ≤ ct9 (ec9 A) Y (A 1).toNat ∨ wqR tw (wqT A K O tw lim P0 (A 1).toNat) ≤ ct9 (ec9 A) Y (A 1).toNat := by
  obtain ⟨k', q1, ⟨C, kI, pI8, wI, t, t1, t2, t3⟩, q3⟩ := wqT_I (lim := lim) (P0 := P0) (K := K) hc hwi hO h8 h0 (A 1).toNat (by omega)
  have le := krI_le (ec9_0 hwi) kI hY
  unfold wqR
  by_cases g : (wqT A K O tw lim P0 (A 1).toNat).2.2 = tw
  · rw [if_pos g, wI]; exact Or.inr le
  · rcases q3 with q | q | q
    · exfalso
      subst q
      have ce := krI_end (fun v q => by
        obtain ⟨i, i1, i2⟩ := hO.2.2 v (by omega)
        exact ⟨i, by omega, by show (O i).toNat = v; omega⟩) kI hY
      refine g (t3.trans (Nat.eq_of_testBit_eq (fun u => ?_)))
      by_cases hu : u < 8
      · cases e : tw.testBit u with
        | true => exact (pI8.2 t u t1 hu).2 (ce t u t2 e)
        | false =>
          rw [Bool.eq_false_iff]
          intro z
          have z2 := (pI8.2 t u t1 hu).1 z
          have := z2 (fun v => st8 tw v) (fun w hw => ⟨fun _ => ((kI.1 w hw).1).1.2, fun _ => ((kI.1 w hw).1).1.1⟩) t2
          have this2 : tw.testBit u = true := this
          rw [e] at this2; cases this2
      · have r := pI8.1 t t1
        rw [Nat.testBit_lt_two_pow (Nat.lt_of_lt_of_le (show ((wqT A K O tw lim P0 (A 1).toNat).1 t).toNat < 2 ^ 8 by omega) (Nat.pow_le_pow_right (n := 2) (by decide) (by omega : 8 ≤ u))), Nat.testBit_lt_two_pow (Nat.lt_of_lt_of_le h8 (Nat.pow_le_pow_right (n := 2) (by decide) (by omega : 8 ≤ u)))]
    · exact absurd q g
    · rw [wI] at q; exact Or.inl (Int.le_trans q le)
