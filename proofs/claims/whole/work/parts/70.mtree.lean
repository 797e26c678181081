/-! lightest trees: the mathematics -/
def cn9 (a b : Nat → Nat) (T : Nat → Prop) (x y : Nat) : Prop := ∀ P : Nat → Prop, (∀ w, T w → (P (a w) ↔ P (b w))) → P x → P y
section CN
variable {a b : Nat → Nat} {T S : Nat → Prop} {x y z f g : Nat}
theorem cn9.refl : cn9 a b T x x := fun _ _ h => h
theorem cn9.tr (h : cn9 a b T x y) (k : cn9 a b T y z) : cn9 a b T x z := fun P hP p => k P hP (h P hP p)
theorem cn9.symm (h : cn9 a b T x y) : cn9 a b T y x := fun P hP py => Classical.byContradiction fun nx => h (fun z => ¬ P z) (fun w hw => not_congr (hP w hw)) nx py
theorem cn9.mono (k : ∀ w, T w → S w) (h : cn9 a b T x y) : cn9 a b S x y := fun P hP p => h P (fun w hw => hP w (k w hw)) p
theorem cn9.edge (h : T f) : cn9 a b T (a f) (b f) := fun P hP p => (hP f h).1 p
theorem cn9.sim (k : ∀ w, T w → cn9 a b S (a w) (b w)) (h : cn9 a b T x y) : cn9 a b S x y := fun P hP p => h P (fun w hw => ⟨fun q => k w hw P hP q, fun q => (k w hw).symm P hP q⟩) p
theorem cn9.add (h : cn9 a b (fun w => T w ∨ w = f) x y) : cn9 a b T x y ∨ (cn9 a b T x (a f) ∧ cn9 a b T (b f) y) ∨ (cn9 a b T x (b f) ∧ cn9 a b T (a f) y) := by
  refine h (fun z => cn9 a b T x z ∨ (cn9 a b T x (a f) ∧ cn9 a b T (b f) z) ∨ (cn9 a b T x (b f) ∧ cn9 a b T (a f) z)) (fun w hw => ?_) (Or.inl cn9.refl)
  rcases hw with hw | hw
  · have e : cn9 a b T (a w) (b w) := cn9.edge hw
    constructor
    · rintro (q | q | q)
      · exact Or.inl (q.tr e)
      · exact Or.inr (Or.inl ⟨q.1, q.2.tr e⟩)
      · exact Or.inr (Or.inr ⟨q.1, q.2.tr e⟩)
    · rintro (q | q | q)
      · exact Or.inl (q.tr e.symm)
      · exact Or.inr (Or.inl ⟨q.1, q.2.tr e.symm⟩)
      · exact Or.inr (Or.inr ⟨q.1, q.2.tr e.symm⟩)
  · subst hw
    constructor
    · rintro (q | q | q)
      · exact Or.inr (Or.inl ⟨q, cn9.refl⟩)
      · exact Or.inr (Or.inl ⟨q.1, cn9.refl⟩)
      · exact Or.inl q.1
    · rintro (q | q | q)
      · exact Or.inr (Or.inr ⟨q, cn9.refl⟩)
      · exact Or.inl q.1
      · exact Or.inr (Or.inr ⟨q.1, cn9.refl⟩)
/-- an edge of T for an edge e that C does not have -/
theorem cn9.exch {C : Nat → Prop} {e n : Nat} (h0 : ¬ cn9 a b C (a e) (b e)) (hT : cn9 a b T (a e) (b e)) (hn : ∀ w, T w → w < n) (hC : ∀ w, C w → T w) : ∃ f, T f ∧ ¬ C f ∧ cn9 a b (fun w => (T w ∧ w ≠ f) ∨ w = e) (a f) (b f) := by
  have key : ∀ i : Nat, cn9 a b (fun w => C w ∨ (T w ∧ w < i)) (a e) (b e) → ∃ f, T f ∧ ¬ C f ∧ cn9 a b (fun w => (T w ∧ w ≠ f) ∨ w = e) (a f) (b f) := by
    intro i
    induction i with
    | zero => intro h; exact absurd (h.mono (fun w hw => hw.elim id (fun q => absurd q.2 (Nat.not_lt_zero _)))) h0
    | succ i ih =>
      intro h
      by_cases g : cn9 a b (fun w => C w ∨ (T w ∧ w < i)) (a e) (b e)
      · exact ih g
      · have hTi : T i := Classical.byContradiction fun q => g (h.mono (fun w hw => hw.elim Or.inl (fun z => Or.inr ⟨z.1, by
          have : w ≠ i := fun e => q (e ▸ z.1)
          omega⟩)))
        have hCi : ¬ C i := fun q => g (h.mono (fun w hw => hw.elim Or.inl (fun z => by
          by_cases e9 : w = i
          · exact Or.inl (e9 ▸ q)
          · exact Or.inr ⟨z.1, by omega⟩)))
        have h2 : cn9 a b (fun w => (C w ∨ (T w ∧ w < i)) ∨ w = i) (a e) (b e) := h.mono (fun w hw => hw.elim (fun q => Or.inl (Or.inl q)) (fun z => by
          by_cases e9 : w = i
          · exact Or.inr e9
          · exact Or.inl (Or.inr ⟨z.1, by omega⟩)))
        have sub : ∀ w, (C w ∨ (T w ∧ w < i)) → ((T w ∧ w ≠ i) ∨ w = e) := fun w hw => Or.inl (hw.elim (fun q => ⟨hC w q, fun e9 => hCi (e9 ▸ q)⟩) (fun z => ⟨z.1, by omega⟩))
        have he : cn9 a b (fun w => (T w ∧ w ≠ i) ∨ w = e) (a e) (b e) := cn9.edge (T := fun w => (T w ∧ w ≠ i) ∨ w = e) (Or.inr rfl)
        refine ⟨i, hTi, hCi, ?_⟩
        rcases h2.add with q | q | q
        · exact absurd q g
        · exact ((q.1.mono sub).symm.tr he).tr (q.2.mono sub).symm
        · exact ((q.2.mono sub).tr he.symm).tr (q.1.mono sub)
  exact key n (hT.mono (fun w hw => Or.inr ⟨hw, hn w hw⟩))
end CN
/-- what a set of wires costs -/
noncomputable def ct9 (c : Nat → Int) (T : Nat → Prop) (n : Nat) : Int := by
  classical
  exact su9 (fun w => if T w then c w else 0) n
theorem su9_eq {f g : Nat → Int} : ∀ n : Nat, (∀ i, i < n → f i = g i) → su9 f n = su9 g n
  | 0, _ => rfl
  | n + 1, h => by
    show su9 f n + f n = su9 g n + g n
    rw [su9_eq n (fun i q => h i (by omega)), h n (by omega)]
theorem su9_mono {f g : Nat → Int} : ∀ n : Nat, (∀ i, i < n → f i ≤ g i) → su9 f n ≤ su9 g n
  | 0, _ => Int.le_refl _
  | n + 1, h => by
    show su9 f n + f n ≤ su9 g n + g n
    have a := su9_mono n (fun i q => h i (by omega))
    have b := h n (by omega)
    omega
theorem ct9_mono {c : Nat → Int} {T S : Nat → Prop} {n : Nat} (hc : ∀ w, w < n → 0 ≤ c w) (h : ∀ w, w < n → T w → S w) : ct9 c T n ≤ ct9 c S n := by
  classical
  unfold ct9
  refine su9_mono n (fun i q => ?_)
  have := hc i q
  by_cases g : T i
  · rw [if_pos g, if_pos (h i q g)]; exact Int.le_refl _
  · rw [if_neg g]; split <;> omega
theorem ct9_swap {c : Nat → Int} {T : Nat → Prop} {n e f : Nat} (he : e < n) (hf : f < n) (hTf : T f) (hTe : ¬ T e) (h : c e ≤ c f) : ct9 c (fun w => (T w ∧ w ≠ f) ∨ w = e) n ≤ ct9 c T n := by
  classical
  have hne : e ≠ f := fun q => hTe (q ▸ hTf)
  have e1 : ct9 c (fun w => (T w ∧ w ≠ f) ∨ w = e) n = su9 (ua (ua (fun w => if T w then c w else 0) f 0) e (c e)) n := by
    unfold ct9
    refine su9_eq n (fun i q => ?_)
    unfold ua
    by_cases i1 : i = e
    · rw [if_pos (Or.inr i1), if_pos i1, i1]
    · rw [if_neg i1]
      by_cases i2 : i = f
      · rw [if_pos i2, if_neg (fun z => z.elim (fun z => z.2 i2) i1)]
      · rw [if_neg i2]
        by_cases i3 : T i
        · rw [if_pos (Or.inl ⟨i3, i2⟩)]; exact (if_pos i3).symm
        · rw [if_neg (fun z => z.elim (fun z => i3 z.1) i1)]; exact (if_neg i3).symm
  rw [e1, su9_ua, su9_ua, if_pos he, if_pos hf, ua_ne _ _ hne, if_neg hTe, if_pos hTf]
  unfold ct9
  omega
section KR
variable {a b o : Nat → Nat} {c : Nat → Int} {n : Nat} {Al S : Nat → Prop}
def krF (a b : Nat → Nat) (n : Nat) (Al S Y : Nat → Prop) : Prop := (∀ w, Y w → Al w ∧ w < n) ∧ ∀ x y, S x → S y → cn9 a b Y x y
/-- after k wires C is chosen: nothing is lost -/
def krI (a b o : Nat → Nat) (c : Nat → Int) (n : Nat) (Al S : Nat → Prop) (k : Nat) (C : Nat → Prop) : Prop := (∀ w, C w → Al w ∧ ∃ i, i < k ∧ o i = w) ∧ ∀ Y, krF a b n Al S Y → ∃ Z, krF a b n Al S Z ∧ ct9 c Z n ≤ ct9 c Y n ∧ ∀ i, i < k → (Z (o i) ↔ C (o i))
theorem krI_0 : krI a b o c n Al S 0 (fun _ => False) := ⟨fun _ h => h.elim, fun Y hY => ⟨Y, hY, Int.le_refl _, fun i h => absurd h (Nat.not_lt_zero _)⟩⟩
theorem krI_no {k : Nat} {C : Nat → Prop} (hi : ∀ i j, i < n → j < n → o i = o j → i = j) (hk : k < n) (h : krI a b o c n Al S k C) (hn : ¬ Al (o k)) : krI a b o c n Al S (k + 1) C := by
  refine ⟨fun w hw => ⟨(h.1 w hw).1, let ⟨i, q, e⟩ := (h.1 w hw).2; ⟨i, by omega, e⟩⟩, fun Y hY => ?_⟩
  obtain ⟨Z, h1, h2, h3⟩ := h.2 Y hY
  refine ⟨Z, h1, h2, fun i q => ?_⟩
  by_cases e : i = k
  · subst e
    exact ⟨fun z => absurd (h1.1 _ z).1 hn, fun z => absurd (h.1 _ z).1 hn⟩
  · exact h3 i (by omega)
theorem krI_C {k : Nat} {C : Nat → Prop} (hi : ∀ i j, i < n → j < n → o i = o j → i = j) (hk : k < n) (h : krI a b o c n Al S k C) : ¬ C (o k) := fun q => by
  obtain ⟨i, g, e⟩ := (h.1 _ q).2
  have := hi i k (by omega) hk e
  omega
theorem krI_sk {k : Nat} {C : Nat → Prop} (hi : ∀ i j, i < n → j < n → o i = o j → i = j) (hc : ∀ w, w < n → 0 ≤ c w) (hk : k < n) (h : krI a b o c n Al S k C) (hn : cn9 a b C (a (o k)) (b (o k))) : krI a b o c n Al S (k + 1) C := by
  refine ⟨fun w hw => ⟨(h.1 w hw).1, let ⟨i, q, e⟩ := (h.1 w hw).2; ⟨i, by omega, e⟩⟩, fun Y hY => ?_⟩
  obtain ⟨Z, h1, h2, h3⟩ := h.2 Y hY
  have hCk := krI_C hi hk h
  refine ⟨fun w => Z w ∧ w ≠ o k, ⟨fun w hw => h1.1 w hw.1, fun x y hx hy => ?_⟩, Int.le_trans (ct9_mono hc (fun w _ q => q.1)) h2, fun i q => ?_⟩
  · refine (h1.2 x y hx hy).sim (fun w hw => ?_)
    by_cases e : w = o k
    · rw [e]
      refine hn.mono (fun v hv => ?_)
      obtain ⟨i, g, e2⟩ := (h.1 v hv).2
      refine ⟨?_, fun e3 => hCk (e3 ▸ hv)⟩
      rw [← e2]
      exact (h3 i g).2 (by rw [e2]; exact hv)
    · exact cn9.edge (T := fun w => Z w ∧ w ≠ o k) ⟨hw, e⟩
  · by_cases e : i = k
    · subst e
      exact ⟨fun z => absurd rfl z.2, fun z => absurd z hCk⟩
    · refine ⟨fun z => (h3 i (by omega)).1 z.1, fun z => ⟨(h3 i (by omega)).2 z, fun e2 => e (hi i k (by omega) hk e2)⟩⟩
theorem krI_yes {k : Nat} {C : Nat → Prop} (hi : ∀ i j, i < n → j < n → o i = o j → i = j) (hl : ∀ i, i < n → o i < n) (hs : ∀ v, v < n → ∃ i, i < n ∧ o i = v) (ho : ∀ i j, i < j → j < n → c (o i) ≤ c (o j)) (hk : k < n) (h : krI a b o c n Al S k C) (hal : Al (o k)) (hSa : S (a (o k))) (hSb : S (b (o k))) (hn : ¬ cn9 a b C (a (o k)) (b (o k))) : krI a b o c n Al S (k + 1) (fun w => C w ∨ w = o k) := by
  have hCk := krI_C hi hk h
  refine ⟨fun w hw => ?_, fun Y hY => ?_⟩
  · rcases hw with hw | hw
    · exact ⟨(h.1 w hw).1, let ⟨i, q, e⟩ := (h.1 w hw).2; ⟨i, by omega, e⟩⟩
    · exact ⟨hw ▸ hal, k, by omega, hw.symm⟩
  · obtain ⟨Z, h1, h2, h3⟩ := h.2 Y hY
    have agree : ∀ i, i < k → o i ≠ o k := fun i q e => by have := hi i k (by omega) hk e; omega
    by_cases he : Z (o k)
    · refine ⟨Z, h1, h2, fun i q => ?_⟩
      by_cases e : i = k
      · subst e; exact ⟨fun _ => Or.inr rfl, fun _ => he⟩
      · exact ⟨fun z => Or.inl ((h3 i (by omega)).1 z), fun z => z.elim (fun z => (h3 i (by omega)).2 z) (fun z => absurd z (agree i (by omega)))⟩
    · have hCZ : ∀ w, C w → Z w := fun w hw => by
        obtain ⟨i, g, e⟩ := (h.1 w hw).2
        rw [← e]; exact (h3 i g).2 (by rw [e]; exact hw)
      obtain ⟨f, f1, f2, f3⟩ := cn9.exch (n := n) hn (h1.2 _ _ hSa hSb) (fun w hw => (h1.1 w hw).2) hCZ
      obtain ⟨j, j1, j2⟩ := hs f (h1.1 f f1).2
      have hj : k < j := by
        rcases Nat.lt_trichotomy j k with q | q | q
        · exact absurd ((h3 j q).1 (by rw [j2]; exact f1)) (by rw [j2]; exact f2)
        · exact absurd f1 (by rw [← j2, q]; exact he)
        · exact q
      refine ⟨fun w => (Z w ∧ w ≠ f) ∨ w = o k, ⟨fun w hw => ?_, fun x y hx hy => ?_⟩, Int.le_trans (ct9_swap (hl k hk) (h1.1 f f1).2 f1 he (by rw [← j2]; exact ho k j hj j1)) h2, fun i q => ?_⟩
      · rcases hw with hw | hw
        · exact h1.1 w hw.1
        · exact ⟨hw ▸ hal, hw ▸ hl k hk⟩
      · refine (h1.2 x y hx hy).sim (fun w hw => ?_)
        by_cases e : w = f
        · rw [e]; exact f3
        · exact cn9.edge (T := fun w => (Z w ∧ w ≠ f) ∨ w = o k) (Or.inl ⟨hw, e⟩)
      · by_cases e : i = k
        · subst e; exact ⟨fun _ => Or.inr rfl, fun _ => Or.inr rfl⟩
        · have hij : o i ≠ f := fun e2 => by
            have := hi i j (by omega) j1 (e2.trans j2.symm)
            omega
          refine ⟨fun z => z.elim (fun z => Or.inl ((h3 i (by omega)).1 z.1)) Or.inr, fun z => z.elim (fun z => Or.inl ⟨(h3 i (by omega)).2 z, hij⟩) Or.inr⟩
/-- what is chosen so far costs no more than any that joins all -/
theorem krI_le {k : Nat} {C Y : Nat → Prop} (hc : ∀ w, w < n → 0 ≤ c w) (h : krI a b o c n Al S k C) (hY : krF a b n Al S Y) : ct9 c C n ≤ ct9 c Y n := by
  obtain ⟨Z, h1, h2, h3⟩ := h.2 Y hY
  refine Int.le_trans (ct9_mono hc (fun w _ hw => ?_)) h2
  obtain ⟨i, g, e⟩ := (h.1 w hw).2
  rw [← e]; exact (h3 i g).2 (by rw [e]; exact hw)
/-- at the end: what joins all is joined by what was chosen -/
theorem krI_end {C Y : Nat → Prop} (hs : ∀ v, v < n → ∃ i, i < n ∧ o i = v) (h : krI a b o c n Al S n C) (hY : krF a b n Al S Y) : ∀ x y, S x → S y → cn9 a b C x y := by
  obtain ⟨Z, h1, h2, h3⟩ := h.2 Y hY
  intro x y hx hy
  refine (h1.2 x y hx hy).mono (fun w hw => ?_)
  obtain ⟨i, g, e⟩ := hs w (h1.1 w hw).2
  rw [← e]; exact (h3 i g).1 (by rw [e]; exact hw)
end KR
/-! the order of the wires -/
def lt9q (A : Nat → Int) (u v : Int) : Prop := A (30 + 4 * u.toNat + 2) < A (30 + 4 * v.toNat + 2) ∨ (A (30 + 4 * u.toNat + 2) = A (30 + 4 * v.toNat + 2) ∧ u < v)
theorem is9_v {A : Nat → Int} {w : Nat} (O0 : Nat → Int) : ∀ (k : Nat) (O : Nat → Int), k ≤ w → (∀ i, i < k → O i = O0 i) → (∀ i, k < i → i ≤ w → O i = O0 (i - 1)) → (∀ i, k ≤ i → i < w → A (30 + 4 * w + 2) < A (30 + 4 * (O0 i).toNat + 2)) → (is9 A w k O).2 ≤ w ∧ (∀ i, i < (is9 A w k O).2 → (is9 A w k O).1 i = O0 i) ∧ (∀ i, (is9 A w k O).2 < i → i ≤ w → (is9 A w k O).1 i = O0 (i - 1)) ∧ (∀ i, (is9 A w k O).2 ≤ i → i < w → A (30 + 4 * w + 2) < A (30 + 4 * (O0 i).toNat + 2)) ∧ ((is9 A w k O).2 = 0 ∨ ¬ A (30 + 4 * w + 2) < A (30 + 4 * (O0 ((is9 A w k O).2 - 1)).toNat + 2))
  | 0, O, h, h1, h2, h3 => ⟨Nat.zero_le _, fun i q => absurd q (Nat.not_lt_zero _), h2, h3, Or.inl rfl⟩
  | k + 1, O, h, h1, h2, h3 => by
    unfold is9
    rw [h1 k (by omega)]
    split
    · next c =>
      refine is9_v O0 k _ (by omega) (fun i q => ?_) (fun i q q2 => ?_) (fun i q q2 => ?_)
      · rw [ua_ne _ _ (by omega)]; exact h1 i (by omega)
      · unfold ua
        split
        · next e => rw [e]; rfl
        · exact h2 i (by omega) q2
      · by_cases e : i = k
        · rw [e]; exact c
        · exact h3 i (by omega) q2
    · next c => exact ⟨h, h1, h2, h3, Or.inr c⟩
theorem ow9_v {A O : Nat → Int} : ∀ w : Nat, (∀ i j, i < j → j < w → lt9q A (ow9 A O w i) (ow9 A O w j)) ∧ ∀ v : Nat, v < w → ∃ i, i < w ∧ ow9 A O w i = (v : Int)
  | 0 => ⟨fun i j _ h => absurd h (Nat.not_lt_zero _), fun v h => absurd h (Nat.not_lt_zero _)⟩
  | w + 1 => by
    obtain ⟨s1, s2⟩ := ow9_v (A := A) (O := O) w
    have rg := ow9_g (A := A) (O := O) w
    obtain ⟨v1, v2, v3, v4, v5⟩ := is9_v (A := A) (w := w) (ow9 A O w) w (ow9 A O w) (Nat.le_refl _) (fun _ _ => rfl) (fun i q q2 => absurd q (by omega)) (fun i q q2 => absurd q (by omega))
    have val : ∀ i, i ≤ w → ow9 A O (w + 1) i = if i < (is9 A w w (ow9 A O w)).2 then ow9 A O w i else if i = (is9 A w w (ow9 A O w)).2 then (w : Int) else ow9 A O w (i - 1) := by
      intro i q
      show ua (is9 A w w (ow9 A O w)).1 (is9 A w w (ow9 A O w)).2 (w : Int) i = _
      unfold ua
      by_cases e : i = (is9 A w w (ow9 A O w)).2
      · rw [if_pos e, if_neg (by omega), if_pos e]
      · rw [if_neg e]
        by_cases g : i < (is9 A w w (ow9 A O w)).2
        · rw [if_pos g]; exact v2 i g
        · rw [if_neg g, if_neg e]; exact v3 i (by omega) q
    generalize (is9 A w w (ow9 A O w)).2 = k at *
    have lo : ∀ i, i < k → lt9q A (ow9 A O w i) (w : Int) := by
      intro i q
      have hk : ¬ A (30 + 4 * w + 2) < A (30 + 4 * (ow9 A O w (k - 1)).toNat + 2) := v5.resolve_left (by omega)
      have r := rg i (by omega)
      unfold lt9q
      rw [Int.toNat_natCast]
      by_cases e : i = k - 1
      · subst e
        rcases Int.lt_or_eq_of_le (Int.not_lt.mp hk) with z | z
        · exact Or.inl z
        · exact Or.inr ⟨z, r.2⟩
      · have t := s1 i (k - 1) (by omega) (by omega)
        unfold lt9q at t
        rcases t with t | t
        · exact Or.inl (by omega)
        · rcases Int.lt_or_eq_of_le (Int.not_lt.mp hk) with z | z
          · exact Or.inl (by omega)
          · exact Or.inr ⟨by omega, r.2⟩
    have up : ∀ i, k ≤ i → i < w → lt9q A (w : Int) (ow9 A O w i) := fun i q q2 => Or.inl (by rw [Int.toNat_natCast]; exact v4 i q q2)
    refine ⟨fun i j q q2 => ?_, fun v q => ?_⟩
    · rw [val i (by omega), val j (by omega)]
      by_cases i1 : i < k
      · rw [if_pos i1]
        by_cases j1 : j < k
        · rw [if_pos j1]; exact s1 i j q (by omega)
        · rw [if_neg j1]
          by_cases j2 : j = k
          · rw [if_pos j2]; exact lo i i1
          · rw [if_neg j2]; exact s1 i (j - 1) (by omega) (by omega)
      · rw [if_neg i1, if_neg (by omega : ¬ j < k), if_neg (by omega : ¬ j = k)]
        by_cases i2 : i = k
        · rw [if_pos i2]; exact up (j - 1) (by omega) (by omega)
        · rw [if_neg i2]; exact s1 (i - 1) (j - 1) (by omega) (by omega)
    · by_cases e : v = w
      · exact ⟨k, by omega, by rw [val k v1, if_neg (Nat.lt_irrefl _), if_pos rfl, e]⟩
      · obtain ⟨i, q1, q2⟩ := s2 v (by omega)
        by_cases g : i < k
        · exact ⟨i, by omega, by rw [val i (by omega), if_pos g]; exact q2⟩
        · exact ⟨i + 1, by omega, by rw [val (i + 1) (by omega), if_neg (by omega), if_neg (by omega)]; exact q2⟩
