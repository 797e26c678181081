/-! the least string of the class is the least set of the reference -/
theorem ct9_nn {c : Nat → Int} {T : Nat → Prop} {n : Nat} (hc : ∀ w, w < n → 0 ≤ c w) : 0 ≤ ct9 c T n := by
  rw [← ct9_0 (c := c) n]
  exact ct9_mono hc (fun w _ q => q.elim)
theorem ct9_s1 {c : Nat → Int} {T : Nat → Prop} {n : Nat} (h : T n) : ct9 c T (n + 1) = ct9 c T n + c n := by
  classical
  exact congrArg (fun z => ct9 c T n + z) (if_pos h)
theorem ct9_s0 {c : Nat → Int} {T : Nat → Prop} {n : Nat} (h : ¬ T n) : ct9 c T (n + 1) = ct9 c T n := by
  classical
  exact (congrArg (fun z => ct9 c T n + z) (if_neg h)).trans (Int.add_zero _)
theorem wqL_I {A K O P0 : Nat → Int} (hc : cn A) (hwi : wi A) (hO : ord9 A O) {nd : Nat} (h0 : 0 < nd) : ∀ m : Nat, nd + m ≤ 2 ^ (A 0).toNat → ((wqL A K O P0 nd m).2 < 1000000000 → ∃ tw X, tw &&& nd = nd ∧ tw < 2 ^ (A 0).toNat ∧ tree9 A K tw X ∧ ct9 (ec9 A) X (A 1).toNat = (wqL A K O P0 nd m).2) ∧ ∀ tw, nd ≤ tw → tw < nd + m → tw &&& nd = nd → ∀ Y, tree9 A K tw Y → (wqL A K O P0 nd m).2 ≤ ct9 (ec9 A) Y (A 1).toNat
  | 0, _ => ⟨fun h => absurd h (by show ¬ (1000000000 : Int) < 1000000000; omega), fun tw h1 h2 => absurd h2 (by omega)⟩
  | m + 1, hm => by
    obtain ⟨a1, a2⟩ := wqL_I (K := K) (P0 := P0) hc hwi hO h0 m (by omega)
    have h256 : 2 ^ (A 0).toNat ≤ 256 := Nat.pow_le_pow_right (n := 2) (by decide) (show (A 0).toNat ≤ 8 by omega)
    unfold wqL
    split
    · next g =>
      refine ⟨a1, fun tw h1 h2 h3 Y hY => ?_⟩
      exact Int.le_trans g (ct9_nn (ec9_0 hwi))
    · next g =>
      split
      · next g2 =>
        have r1 := @wqR_1 A K O (wqL A K O P0 nd m).1 hc hwi hO (nd + m) (wqL A K O P0 nd m).2 (by omega) (by omega)
        have r2 := fun Y hY => @wqR_2 A K O (wqL A K O P0 nd m).1 hc hwi hO (nd + m) (wqL A K O P0 nd m).2 (by omega) (by omega) Y hY
        generalize wqR (nd + m) (wqT A K O (nd + m) (wqL A K O P0 nd m).2 (wqL A K O P0 nd m).1 (A 1).toNat) = R at r1 r2 ⊢
        show ((if R < (wqL A K O P0 nd m).2 then R else (wqL A K O P0 nd m).2) < 1000000000 → ∃ tw X, tw &&& nd = nd ∧ tw < 2 ^ (A 0).toNat ∧ tree9 A K tw X ∧ ct9 (ec9 A) X (A 1).toNat = (if R < (wqL A K O P0 nd m).2 then R else (wqL A K O P0 nd m).2)) ∧ ∀ tw, nd ≤ tw → tw < nd + (m + 1) → tw &&& nd = nd → ∀ Y, tree9 A K tw Y → (if R < (wqL A K O P0 nd m).2 then R else (wqL A K O P0 nd m).2) ≤ ct9 (ec9 A) Y (A 1).toNat
        by_cases c : R < (wqL A K O P0 nd m).2
        · rw [if_pos c]
          refine ⟨fun h => ?_, fun tw h1 h2 h3 Y hY => ?_⟩
          · obtain ⟨X, x1, x2⟩ := r1 h
            exact ⟨nd + m, X, g2, by omega, x1, x2⟩
          · by_cases e : tw = nd + m
            · subst e
              rcases r2 Y hY with q | q <;> omega
            · have := a2 tw h1 (by omega) h3 Y hY
              omega
        · rw [if_neg c]
          refine ⟨a1, fun tw h1 h2 h3 Y hY => ?_⟩
          by_cases e : tw = nd + m
          · subst e
            rcases r2 Y hY with q | q <;> omega
          · exact a2 tw h1 (by omega) h3 Y hY
      · next g2 =>
        refine ⟨a1, fun tw h1 h2 h3 Y hY => ?_⟩
        by_cases e : tw = nd + m
        · subst e; exact absurd h3 g2
        · exact a2 tw h1 (by omega) h3 Y hY
abbrev ts9 (A : Nat → Int) (X w : Nat) : Prop := w < (A 1).toNat ∧ X.testBit w = true
theorem bit0 (X w : Nat) : ((X : Nat) : Int) / 2 ^ w % 2 ^ 1 = 0 ↔ ¬ X.testBit w = true := by
  rw [← bit_int]; omega
theorem jw_sup (A : Nat → Int) (X : Nat) : ∀ (w x i : Nat), x.testBit i = true → (jw A (X : Int) w x).testBit i = true
  | 0, x, i, h => h
  | w + 1, x, i, h => by
    have a := jw_sup A X w x i h
    unfold jw
    repeat' split
    · exact a
    · exact a
    · rw [Nat.testBit_or, a]; rfl
theorem jw_up (A : Nat → Int) (X x : Nat) : ∀ (d w i : Nat), (jw A (X : Int) w x).testBit i = true → (jw A (X : Int) (w + d) x).testBit i = true
  | 0, w, i, h => h
  | d + 1, w, i, h => by
    have a := jw_up A X x d w i h
    show (jw A (X : Int) (w + d + 1) x).testBit i = true
    unfold jw
    repeat' split
    · exact a
    · exact a
    · rw [Nat.testBit_or, a]; rfl
theorem jw_cn {A : Nat → Int} {X x l : Nat} (h : ∀ i, x.testBit i = true → cn9 (ea9 A) (eb9 A) (ts9 A X) l i) : ∀ w : Nat, w ≤ (A 1).toNat → ∀ i, (jw A (X : Int) w x).testBit i = true → cn9 (ea9 A) (eb9 A) (ts9 A X) l i
  | 0, _ => h
  | w + 1, hw => by
    have a := jw_cn h w (by omega)
    intro i
    unfold jw
    split
    · exact a i
    · next g =>
      split
      · exact a i
      · next g2 =>
        rw [Nat.testBit_or, Bool.or_eq_true]
        have hX : X.testBit w = true := Classical.byContradiction fun q => g ((bit0 X w).2 q)
        have ed : cn9 (ea9 A) (eb9 A) (ts9 A X) (ea9 A w) (eb9 A w) := cn9.edge (T := ts9 A X) ⟨by omega, hX⟩
        obtain ⟨v, hv⟩ := Nat.exists_testBit_of_ne_zero g2
        rw [Nat.testBit_and, Bool.and_eq_true] at hv
        have lv := a v hv.1
        intro q
        rcases q with q | q
        · exact a i q
        · rcases (wb_bit A w v).1 hv.2 with e | e <;> rcases (wb_bit A w i).1 q with e2 | e2
          · rw [← e2, e]; exact lv
          · rw [← e2]; rw [← e] at lv; exact lv.tr ed
          · rw [← e2]; rw [← e] at lv; exact lv.tr ed.symm
          · rw [← e2, e]; exact lv
theorem jw_fx {A : Nat → Int} {X x : Nat} (h : jw A (X : Int) (A 1).toNat x = x) {w : Nat} (hw : ts9 A X w) : x.testBit (ea9 A w) = true ↔ x.testBit (eb9 A w) = true := by
  have eq : ∀ v, v ≤ (A 1).toNat → jw A (X : Int) v x = x := fun v hv => Nat.eq_of_testBit_eq (fun i => by
    cases e : x.testBit i with
    | true => exact jw_sup A X v x i e
    | false =>
      rw [Bool.eq_false_iff]
      intro z
      have := jw_up A X x ((A 1).toNat - v) v i z
      rw [show v + ((A 1).toNat - v) = (A 1).toNat by omega, h, e] at this
      cases this)
  have e1 := eq (w + 1) (by omega)
  unfold jw at e1
  rw [eq w (by omega), if_neg (fun z => (bit0 X w).1 z hw.2)] at e1
  split at e1
  · next g =>
    have no : ∀ v, (wb A w).testBit v = true → ¬ x.testBit v = true := fun v hv z => by
      have : (x &&& wb A w).testBit v = true := by rw [Nat.testBit_and, hv, z]; rfl
      rw [g, Nat.zero_testBit] at this
      cases this
    exact ⟨fun z => absurd z (no _ ((wb_bit A w _).2 (Or.inl rfl))), fun z => absurd z (no _ ((wb_bit A w _).2 (Or.inr rfl)))⟩
  · have yes : ∀ v, (wb A w).testBit v = true → x.testBit v = true := fun v hv => by rw [← e1, Nat.testBit_or, hv, Bool.or_true]
    exact ⟨fun _ => yes _ ((wb_bit A w _).2 (Or.inr rfl)), fun _ => yes _ ((wb_bit A w _).2 (Or.inl rfl))⟩
theorem jn_all {A : Nat → Int} (hc : cn A) (hwi : wi A) (X l : Nat) : ∀ (f x : Nat), x < 256 → 256 ≤ f + x → (∀ i, x.testBit i = true → cn9 (ea9 A) (eb9 A) (ts9 A X) l i) → jw A (X : Int) (A 1).toNat (jn A (X : Int) f x) = jn A (X : Int) f x ∧ (∀ i, x.testBit i = true → (jn A (X : Int) f x).testBit i = true) ∧ (∀ i, (jn A (X : Int) f x).testBit i = true → cn9 (ea9 A) (eb9 A) (ts9 A X) l i) ∧ jn A (X : Int) f x < 256
  | 0, x, h1, h2, _ => absurd h2 (by omega)
  | f + 1, x, h1, h2, h3 => by
    unfold jn
    split
    · next g => exact ⟨g, fun i q => q, h3, h1⟩
    · next g =>
      have le := jw_le A (X : Int) (A 1).toNat x
      have lt := jw_lt hc hwi (X : Int) h1 (A 1).toNat (by omega)
      obtain ⟨b1, b2, b3, b4⟩ := jn_all hc hwi X l f (jw A (X : Int) (A 1).toNat x) lt (by omega) (jw_cn h3 _ (Nat.le_refl _))
      exact ⟨b1, fun i q => b2 i (jw_sup A X _ x i q), b3, b4⟩
theorem jo_iff {A : Nat → Int} (hc : cn A) (hwi : wi A) {X nd : Nat} (h8 : nd < 256) {l : Nat} (hl : nd &&& (4096 - nd) = 2 ^ l) : ∃ M, M < 256 ∧ M.testBit l = true ∧ (∀ w, ts9 A X w → (M.testBit (ea9 A w) = true ↔ M.testBit (eb9 A w) = true)) ∧ (∀ i, M.testBit i = true → cn9 (ea9 A) (eb9 A) (ts9 A X) l i) ∧ (jo A (X : Int) nd = true ↔ ∀ i, nd.testBit i = true → M.testBit i = true) := by
  have lw := low_le nd h8
  rw [hl] at lw
  obtain ⟨b1, b2, b3, b4⟩ := jn_all hc hwi X l 256 (2 ^ l) lw (by omega) (fun i q => by
    rw [Nat.testBit_two_pow, decide_eq_true_iff] at q
    rw [q]; exact cn9.refl)
  refine ⟨jn A (X : Int) 256 (2 ^ l), b4, b2 l Nat.testBit_two_pow_self, fun w hw => jw_fx b1 hw, b3, ?_⟩
  unfold jo
  rw [hl, decide_eq_true_iff]
  generalize jn A (X : Int) 256 (2 ^ l) = M at *
  constructor
  · intro h i hi
    refine Classical.byContradiction fun q => ?_
    have i8 : i < 8 := Classical.byContradiction fun z => by
      rw [Nat.testBit_lt_two_pow (Nat.lt_of_lt_of_le h8 (Nat.pow_le_pow_right (n := 2) (by decide) (by omega : 8 ≤ i)))] at hi
      cases hi
    have : (nd &&& (4095 ^^^ M)).testBit i = true := by
      rw [Nat.testBit_and, hi, Nat.testBit_xor, (by decide +kernel : ∀ i, i < 8 → Nat.testBit 4095 i = true) i i8, Bool.eq_false_iff.mpr q]; rfl
    rw [h, Nat.zero_testBit] at this
    cases this
  · intro h
    refine Classical.byContradiction fun q => ?_
    obtain ⟨i, hi⟩ := Nat.exists_testBit_of_ne_zero q
    rw [Nat.testBit_and, Bool.and_eq_true, Nat.testBit_xor] at hi
    have i8 : i < 8 := Classical.byContradiction fun z => by
      rw [Nat.testBit_lt_two_pow (Nat.lt_of_lt_of_le h8 (Nat.pow_le_pow_right (n := 2) (by decide) (by omega : 8 ≤ i)))] at hi
      cases hi.1
    rw [(by decide +kernel : ∀ i, i < 8 → Nat.testBit 4095 i = true) i i8, h i hi.1] at hi
    exact absurd hi.2 (by decide)
theorem fr9_bit (A K : Nat → Int) : ∀ n i : Nat, (fr9 A K n).testBit i = true ↔ (i < n ∧ K i < A (30 + 4 * i + 3))
  | 0, i => by
    unfold fr9
    rw [Nat.zero_testBit]
    exact ⟨fun h => (by cases h), fun h => absurd h.1 (Nat.not_lt_zero _)⟩
  | n + 1, i => by
    have a := fr9_bit A K n i
    unfold fr9
    rw [Nat.testBit_or, Bool.or_eq_true, a]
    split
    · next g =>
      rw [Nat.testBit_two_pow, decide_eq_true_iff]
      constructor
      · rintro (h | h)
        · exact ⟨by omega, h.2⟩
        · exact ⟨by omega, h ▸ g⟩
      · rintro ⟨h1, h2⟩
        by_cases e : i = n
        · exact Or.inr e.symm
        · exact Or.inl ⟨by omega, h2⟩
    · next g =>
      rw [Nat.zero_testBit]
      constructor
      · rintro (h | h)
        · exact ⟨by omega, h.2⟩
        · cases h
      · rintro ⟨h1, h2⟩
        refine Or.inl ⟨?_, h2⟩
        have : i ≠ n := fun e => g (e ▸ h2)
        omega
theorem fre_iff {A K : Nat → Int} (h12 : A 1 ≤ 12) {X : Nat} (hX : X < 2 ^ (A 1).toNat) : (X &&& (4095 ^^^ fr9 A K (A 1).toNat)) = 0 ↔ ∀ w, ts9 A X w → K w < A (30 + 4 * w + 3) := by
  have xl : ∀ i, X.testBit i = true → i < (A 1).toNat := fun i hi => Classical.byContradiction fun z => by
    rw [Nat.testBit_lt_two_pow (Nat.lt_of_lt_of_le hX (Nat.pow_le_pow_right (n := 2) (by decide) (by omega : (A 1).toNat ≤ i)))] at hi
    cases hi
  constructor
  · intro h w hw
    refine Classical.byContradiction fun q => ?_
    have : (X &&& (4095 ^^^ fr9 A K (A 1).toNat)).testBit w = true := by
      rw [Nat.testBit_and, hw.2, Nat.testBit_xor, (by decide +kernel : ∀ i, i < 12 → Nat.testBit 4095 i = true) w (by omega), Bool.eq_false_iff.mpr (fun z => q ((fr9_bit A K _ w).1 z).2)]; rfl
    rw [h, Nat.zero_testBit] at this
    cases this
  · intro h
    refine Classical.byContradiction fun q => ?_
    obtain ⟨i, hi⟩ := Nat.exists_testBit_of_ne_zero q
    rw [Nat.testBit_and, Bool.and_eq_true, Nat.testBit_xor] at hi
    have i1 := xl i hi.1
    rw [(by decide +kernel : ∀ i, i < 12 → Nat.testBit 4095 i = true) i (by omega), (fr9_bit A K _ i).2 ⟨i1, h i ⟨i1, hi.1⟩⟩] at hi
    exact absurd hi.2 (by decide)
/-- what a set costs, as one number -/
theorem ct9_ml {A : Nat → Int} (X : Nat) : ∀ n : Nat, ct9 (ec9 A) (fun w => X.testBit w = true) n = 4096 * ml A (X : Int) n + ((X % 2 ^ n : Nat) : Int) := by
  intro n
  induction n with
  | zero =>
    show (0 : Int) = 4096 * 0 + ((X % 1 : Nat) : Int)
    rw [Nat.mod_one]; rfl
  | succ n ih =>
    rw [ml, Nat.mod_pow_succ]
    cases e : X.testBit n with
    | true =>
      have e2 := (bit_int X n).2 e
      rw [ct9_s1 (T := fun w => X.testBit w = true) e, ih]
      rw [Nat.testBit_eq_decide_div_mod_eq, decide_eq_true_iff] at e
      rw [if_pos e2, e]
      show _ + (A (30 + 4 * n + 2) * 4096 + 2 ^ n) = _
      have p : ((2 ^ n : Nat) : Int) = (2 : Int) ^ n := by rw [Int.natCast_pow]; rfl
      rw [Nat.mul_one, Int.natCast_add, p]
      omega
    | false =>
      have e2 : ¬ ((X : Nat) : Int) / 2 ^ n % 2 ^ 1 = 1 := fun z => by rw [(bit_int X n).1 z] at e; cases e
      rw [ct9_s0 (T := fun w => X.testBit w = true) (by rw [e]; decide), ih]
      rw [Nat.testBit_eq_decide_div_mod_eq, decide_eq_false_iff_not] at e
      have e3 : X / 2 ^ n % 2 = 0 := by omega
      rw [if_neg e2, e3, Nat.mul_zero, Nat.add_zero]
      omega
theorem ct9_c {c : Nat → Int} {T S : Nat → Prop} {n : Nat} (h : ∀ w, w < n → (T w ↔ S w)) : ct9 c T n = ct9 c S n := by
  classical
  unfold ct9
  refine su9_eq n (fun i q => ?_)
  by_cases g : T i
  · rw [if_pos g, if_pos ((h i q).1 g)]
  · rw [if_neg g, if_neg (fun z => g ((h i q).2 z))]
/-- a set as a number -/
theorem mk9 (T : Nat → Prop) : ∀ n : Nat, ∃ X, X < 2 ^ n ∧ ∀ w, w < n → (X.testBit w = true ↔ T w)
  | 0 => ⟨0, by decide, fun w h => absurd h (Nat.not_lt_zero _)⟩
  | n + 1 => by
    obtain ⟨X, h1, h2⟩ := mk9 T n
    by_cases g : T n
    · refine ⟨X ||| 2 ^ n, Nat.or_lt_two_pow (Nat.lt_of_lt_of_le h1 (Nat.pow_le_pow_right (by decide) (by omega))) (Nat.pow_lt_pow_right (by decide) (by omega)), fun w hw => ?_⟩
      rw [Nat.testBit_or, Bool.or_eq_true, Nat.testBit_two_pow, decide_eq_true_iff]
      by_cases e : w = n
      · exact ⟨fun _ => e ▸ g, fun _ => Or.inr e.symm⟩
      · rw [h2 w (by omega)]
        exact ⟨fun z => z.elim id (fun z => absurd z.symm e), Or.inl⟩
    · refine ⟨X, Nat.lt_of_lt_of_le h1 (Nat.pow_le_pow_right (by decide) (by omega)), fun w hw => ?_⟩
      by_cases e : w = n
      · rw [e, Nat.testBit_lt_two_pow h1]
        exact ⟨fun z => (by cases z), fun z => absurd z g⟩
      · exact h2 w (by omega)
abbrev fea9 (A K : Nat → Int) (nd X : Nat) : Prop := (X &&& (4095 ^^^ fr9 A K (A 1).toNat)) = 0 ∧ jo A (X : Int) nd = true
theorem bs_sp {A K L : Nat → Int} {nd : Nat} : ∀ N : Nat, ((∀ X, X < N → ¬ fea9 A K nd X) ∧ (bs A K L nd N).1 = -1) ∨ ∃ X, X < N ∧ fea9 A K nd X ∧ bs A K L nd N = ((X : Int), L X) ∧ ∀ Y, Y < N → fea9 A K nd Y → L X < L Y ∨ (L X = L Y ∧ X ≤ Y)
  | 0 => Or.inl ⟨fun X h => absurd h (Nat.not_lt_zero _), rfl⟩
  | N + 1 => by
    have a := bs_sp (A := A) (K := K) (L := L) (nd := nd) N
    unfold bs
    by_cases g : (N &&& (4095 ^^^ fr9 A K (A 1).toNat)) = 0 ∧ ((bs A K L nd N).1 < 0 ∨ L N < (bs A K L nd N).2) ∧ jo A (N : Int) nd = true
    · rw [if_pos g]
      refine Or.inr ⟨N, by omega, ⟨g.1, g.2.2⟩, rfl, fun Y hY fY => ?_⟩
      by_cases e : Y = N
      · rw [e]; exact Or.inr ⟨rfl, Nat.le_refl _⟩
      · rcases a with a | ⟨X, x1, x2, x3, x4⟩
        · exact absurd fY (a.1 Y (by omega))
        · rw [x3] at g
          have gl : L N < L X := g.2.1.resolve_left (by show ¬ (X : Int) < 0; omega)
          rcases x4 Y (by omega) fY with q | q
          · exact Or.inl (by omega)
          · exact Or.inl (by omega)
    · rw [if_neg g]
      rcases a with a | ⟨X, x1, x2, x3, x4⟩
      · refine Or.inl ⟨fun X hX fX => ?_, a.2⟩
        by_cases e : X = N
        · subst e; exact g ⟨fX.1, Or.inl (by rw [a.2]; omega), fX.2⟩
        · exact a.1 X (by omega) fX
      · refine Or.inr ⟨X, by omega, x2, x3, fun Y hY fY => ?_⟩
        by_cases e : Y = N
        · subst e
          have : ¬ L Y < L X := fun z => g ⟨fY.1, Or.inr (by rw [x3]; exact z), fY.2⟩
          rcases Int.lt_or_eq_of_le (Int.not_lt.mp this) with q | q
          · exact Or.inl q
          · exact Or.inr ⟨q, by omega⟩
        · exact x4 Y (by omega) fY
theorem ct9_hi {A : Nat → Int} (hwi : wi A) (h12 : 0 ≤ A 1 ∧ A 1 ≤ 12) (T : Nat → Prop) : ∀ n : Nat, (n : Int) ≤ A 1 → ct9 (ec9 A) T n ≤ 4096000 * (n : Int) := by
  intro n
  induction n with
  | zero => intro _; show (0 : Int) ≤ _; omega
  | succ n ih =>
    intro h
    have a := ih (by omega)
    have w := hwi n (by omega)
    have p := p2_le n 11 (by omega)
    by_cases g : T n
    · rw [ct9_s1 g]
      show _ + (A (30 + 4 * n + 2) * 4096 + 2 ^ n) ≤ _
      omega
    · rw [ct9_s0 g]; omega
theorem tree_fea {A K : Nat → Int} (hc : cn A) (hwi : wi A) {nd tw : Nat} (h0 : 0 < nd) (h8 : nd < 256) (hs : tw &&& nd = nd) {T : Nat → Prop} (hT : tree9 A K tw T) {X : Nat} (hX : X < 2 ^ (A 1).toNat) (hb : ∀ w, w < (A 1).toNat → (X.testBit w = true ↔ T w)) : fea9 A K nd X := by
  obtain ⟨l, l1, l2, l3⟩ := low9e h8 h0
  obtain ⟨M, m1, m2, m3, m4, m5⟩ := jo_iff hc hwi (X := X) h8 l3
  refine ⟨(fre_iff (by omega) hX).2 (fun w hw => (hT.1 w ((hb w hw.1).1 hw.2)).1.2), m5.2 (fun i hi => ?_)⟩
  have sub : ∀ i, nd.testBit i = true → st8 tw i := by
    intro i hi
    rw [← hs, Nat.testBit_and, Bool.and_eq_true] at hi
    exact hi.1
  have := hT.2 l i (sub l l2) (sub i hi)
  exact this (fun z => M.testBit z = true) (fun w hw => m3 w ⟨(hT.1 w hw).2, (hb w (hT.1 w hw).2).2 hw⟩) m2
theorem fea_tree {A K : Nat → Int} (hc : cn A) (hwi : wi A) {nd : Nat} (h0 : 0 < nd) (hnd : nd < 2 ^ (A 0).toNat) {X : Nat} (hX : X < 2 ^ (A 1).toNat) (h : fea9 A K nd X) : ∃ tw T, tw &&& nd = nd ∧ tw < 2 ^ (A 0).toNat ∧ tree9 A K tw T ∧ ct9 (ec9 A) T (A 1).toNat ≤ ct9 (ec9 A) (fun w => X.testBit w = true) (A 1).toNat := by
  have h256 : 2 ^ (A 0).toNat ≤ 256 := Nat.pow_le_pow_right (n := 2) (by decide) (show (A 0).toNat ≤ 8 by omega)
  obtain ⟨l, l1, l2, l3⟩ := low9e (by omega : nd < 256) h0
  obtain ⟨M, m1, m2, m3, m4, m5⟩ := jo_iff hc hwi (X := X) (by omega : nd < 256) l3
  have sub := m5.1 h.2
  have ml : ∀ i, M.testBit i = true → i < (A 0).toNat := by
    intro i hi
    refine m4 i hi (fun z => z < (A 0).toNat) (fun w hw => ?_) ?_
    · have := hwi w (by omega)
      show (A _).toNat < _ ↔ (A _).toNat < _
      omega
    · refine Classical.byContradiction fun z => ?_
      rw [Nat.testBit_lt_two_pow (Nat.lt_of_lt_of_le hnd (Nat.pow_le_pow_right (n := 2) (by decide) (by omega : (A 0).toNat ≤ l)))] at l2
      cases l2
  refine ⟨M, fun w => ts9 A X w ∧ M.testBit (ea9 A w) = true, ?_, ?_, ⟨fun w hw => ⟨⟨⟨hw.2, (m3 w hw.1).1 hw.2⟩, (fre_iff (by omega) hX).1 h.1 w hw.1⟩, hw.1.1⟩, fun x y hx hy => ?_⟩, ct9_mono (ec9_0 hwi) (fun w _ q => q.1.2)⟩
  · rw [Nat.and_comm]; exact sub9q.2 sub
  · exact Nat.lt_pow_two_of_testBit M (fun i hi => by
      rw [Bool.eq_false_iff]; intro z; have := ml i z; omega)
  · have key : ∀ z, M.testBit z = true → cn9 (ea9 A) (eb9 A) (fun w => ts9 A X w ∧ M.testBit (ea9 A w) = true) l z := by
      intro z hz
      have := m4 z hz (fun v => M.testBit v = true ∧ cn9 (ea9 A) (eb9 A) (fun w => ts9 A X w ∧ M.testBit (ea9 A w) = true) l v) (fun w hw => ?_) ⟨m2, cn9.refl⟩
      · exact this.2
      · constructor
        · rintro ⟨q1, q2⟩
          exact ⟨(m3 w hw).1 q1, q2.tr (cn9.edge (T := fun w => ts9 A X w ∧ M.testBit (ea9 A w) = true) ⟨hw, q1⟩)⟩
        · rintro ⟨q1, q2⟩
          have q3 := (m3 w hw).2 q1
          exact ⟨q3, q2.tr (cn9.edge (T := fun w => ts9 A X w ∧ M.testBit (ea9 A w) = true) ⟨hw, q3⟩).symm⟩
    exact (key x hx).symm.tr (key y hy)
theorem wqN_bs {A K O P0 L : Nat → Int} (hc : cn A) (hwi : wi A) (hO : ord9 A O) {nd : Nat} (h0 : 0 < nd) (hnd : nd < 2 ^ (A 0).toNat) (hL : ∀ X, X < 2 ^ (A 1).toNat → L X = ml A (X : Int) (A 1).toNat) : wqN A K O P0 nd = (bs A K L nd (2 ^ (A 1).toNat)).1 := by
  have h256 : 2 ^ (A 0).toNat ≤ 256 := Nat.pow_le_pow_right (n := 2) (by decide) (show (A 0).toNat ≤ 8 by omega)
  have h4096 : 2 ^ (A 1).toNat ≤ 4096 := Nat.pow_le_pow_right (n := 2) (by decide) (show (A 1).toNat ≤ 12 by omega)
  obtain ⟨a1, a2⟩ := wqL_I (K := K) (P0 := P0) hc hwi hO h0 (2 ^ (A 0).toNat - nd) (by omega)
  have rg := wqL_r (K := K) hwi (by omega) hO.1 P0 nd (2 ^ (A 0).toNat - nd)
  have cost : ∀ X, X < 2 ^ (A 1).toNat → ct9 (ec9 A) (fun w => X.testBit w = true) (A 1).toNat = 4096 * L X + (X : Int) := fun X hX => by
    rw [ct9_ml, hL X hX, Nat.mod_eq_of_lt hX]
  have le : ∀ X, X < 2 ^ (A 1).toNat → fea9 A K nd X → (wqL A K O P0 nd (2 ^ (A 0).toNat - nd)).2 ≤ 4096 * L X + (X : Int) := fun X hX fX => by
    obtain ⟨tw, T, t1, t2, t3, t4⟩ := fea_tree hc hwi h0 hnd hX fX
    have := a2 tw (by rw [← t1]; exact Nat.and_le_left) (by omega) t1 T t3
    rw [cost X hX] at t4
    omega
  unfold wqN
  rcases bs_sp (A := A) (K := K) (L := L) (nd := nd) (2 ^ (A 1).toNat) with ⟨b1, b2⟩ | ⟨X, x1, x2, x3, x4⟩
  · rw [b2]
    refine if_pos (Classical.byContradiction fun q => ?_)
    obtain ⟨tw, T, t1, t2, t3, t4⟩ := a1 (by omega)
    obtain ⟨X, y1, y2⟩ := mk9 T (A 1).toNat
    exact b1 X y1 (tree_fea hc hwi h0 (by omega) t1 t3 y1 y2)
  · have lx := le X x1 x2
    have hi : 4096 * L X + (X : Int) ≤ 4096000 * (((A 1).toNat : Nat) : Int) := by
      rw [← cost X x1]; exact ct9_hi hwi (by omega) _ _ (by omega)
    obtain ⟨tw, T, t1, t2, t3, t4⟩ := a1 (by omega)
    obtain ⟨Y, y1, y2⟩ := mk9 T (A 1).toNat
    have fY := tree_fea hc hwi h0 (by omega) t1 t3 y1 y2
    have cY : ct9 (ec9 A) T (A 1).toNat = 4096 * L Y + (Y : Int) := by
      rw [← cost Y y1]; exact ct9_c (fun w hw => (y2 w hw).symm)
    have := x4 Y y1 fY
    rw [x3, if_neg (by omega)]
    show _ = (X : Int)
    omega
theorem ow9_ord {A O : Nat → Int} (h : 0 ≤ A 1) : ord9 A (ow9 A O (A 1).toNat) := by
  obtain ⟨v1, v2⟩ := ow9_v (A := A) (O := O) (A 1).toNat
  refine ⟨fun i q => by have := ow9_g (A := A) (O := O) (A 1).toNat i (by omega); omega, fun i j q q2 => v1 i j q (by omega), fun v q => ?_⟩
  obtain ⟨i, i1, i2⟩ := v2 v (by omega)
  exact ⟨i, by omega, i2⟩
