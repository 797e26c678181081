/-! the next order -/
theorem ri_r (O : Nat → Int) : ∀ (f : Nat) (i0 : Int), -1 ≤ i0 → i0 + 1 ≤ f → -1 ≤ ri O f i0 ∧ ri O f i0 ≤ i0 ∧ (0 ≤ ri O f i0 → ¬ O (ri O f i0 + 1).toNat < O (ri O f i0).toNat) ∧ ∀ q : Int, ri O f i0 < q → q ≤ i0 → O (q + 1).toNat < O q.toNat
  | 0, i0, h0, h1 => by
    unfold ri
    exact ⟨h0, Int.le_refl _, fun h => by omega, fun q a b => by omega⟩
  | f + 1, i0, h0, h1 => by
    unfold ri
    split
    · next c =>
      have ih := ri_r O f (i0 + -1) (by omega) (by omega)
      refine ⟨ih.1, by omega, ih.2.2.1, fun q a b => ?_⟩
      by_cases e : q = i0
      · subst e; exact c.2
      · exact ih.2.2.2 q a (by omega)
    · next c =>
      exact ⟨h0, Int.le_refl _, fun h => fun z => c ⟨h, z⟩, fun q a b => by omega⟩
theorem rj_r (O : Nat → Int) (x : Int) (q0 : Int) (hq : ¬ O q0.toNat < x) : ∀ (f : Nat) (j0 : Int), q0 ≤ j0 → j0 - q0 ≤ f → q0 ≤ rj O x f j0 ∧ rj O x f j0 ≤ j0 ∧ ¬ O (rj O x f j0).toNat < x ∧ ∀ q : Int, rj O x f j0 < q → q ≤ j0 → O q.toNat < x
  | 0, j0, h0, h1 => by
    unfold rj
    have : j0 = q0 := by omega
    subst this
    exact ⟨Int.le_refl _, Int.le_refl _, hq, fun q a b => by omega⟩
  | f + 1, j0, h0, h1 => by
    unfold rj
    split
    · next c =>
      have ne : ¬ j0 = q0 := fun e => by subst e; exact hq c
      have ih := rj_r O x q0 hq f (j0 + -1) (by omega) (by omega)
      refine ⟨ih.1, by omega, ih.2.2.1, fun q a b => ?_⟩
      by_cases e : q = j0
      · subst e; exact c
      · exact ih.2.2.2 q a (by omega)
    · next c => exact ⟨h0, Int.le_refl _, c, fun q a b => by omega⟩
/-- an order: seven numbers from 0 to 6, the first n of them unlike -/
def pm9 (O : Nat → Int) (n : Nat) : Prop := (∀ j, j < 7 → 0 ≤ O j ∧ O j ≤ 6) ∧ ∀ a b, a < n → b < n → O a = O b → a = b
theorem sw_v (O : Nat → Int) (a b q : Nat) : sw O a b q = if q = b then O a else if q = a then O b else O q := by
  unfold sw ua; rfl
theorem pm_sw {O : Nat → Int} {n a b : Nat} (h : pm9 O n) (hn : n ≤ 7) (ha : a < n) (hb : b < n) : pm9 (sw O a b) n := by
  refine ⟨fun j hj => ?_, fun u v hu hv => ?_⟩
  · rw [sw_v]
    split
    · exact h.1 a (by omega)
    · split
      · exact h.1 b (by omega)
      · exact h.1 j hj
  · rw [sw_v, sw_v]
    intro e
    have k1 := h.2 a v ha hv
    have k2 := h.2 u a hu ha
    have k3 := h.2 b v hb hv
    have k4 := h.2 u b hu hb
    have k5 := h.2 u v hu hv
    have k6 := h.2 a b ha hb
    have k7 := h.2 b a hb ha
    split at e
    · split at e
      · omega
      · split at e
        · have := k6 e; omega
        · have := k1 e; omega
    · split at e
      · split at e
        · have := k7 e; omega
        · split at e
          · omega
          · have := k3 e; omega
      · split at e
        · have := k2 e; omega
        · split at e
          · have := k4 e; omega
          · exact k5 e
theorem pm_rv {n : Nat} (hn : n ≤ 7) : ∀ (f : Nat) (a b : Int) (O : Nat → Int), pm9 O n → 0 ≤ a → b ≤ (n : Int) - 1 → pm9 (rv f a b O) n
  | 0, _, _, _, h, _, _ => h
  | f + 1, a, b, O, h, ha, hb => by
    unfold rv
    split
    · exact pm_rv hn f _ _ _ (pm_sw h hn (by omega) (by omega)) (by omega) (by omega)
    · exact h
theorem rv_lo : ∀ (f : Nat) (a b : Int) (O : Nat → Int) (q : Nat), (q : Int) < a → rv f a b O q = O q
  | 0, _, _, _, _, _ => rfl
  | f + 1, a, b, O, q, h => by
    unfold rv
    split
    · rw [rv_lo f _ _ _ q (by omega), sw_v, if_neg (by omega), if_neg (by omega)]
    · rfl
def vl7 (O : Nat → Int) : Int := O 0 * 262144 + O 1 * 32768 + O 2 * 4096 + O 3 * 512 + O 4 * 64 + O 5 * 8 + O 6
theorem vl_r {O : Nat → Int} {n : Nat} (h : pm9 O n) : 0 ≤ vl7 O ∧ vl7 O ≤ 2097151 := by
  have h0 := h.1 0 (by decide); have h1 := h.1 1 (by decide); have h2 := h.1 2 (by decide); have h3 := h.1 3 (by decide)
  have h4 := h.1 4 (by decide); have h5 := h.1 5 (by decide); have h6 := h.1 6 (by decide)
  unfold vl7
  omega
theorem vl_lt {O Q : Nat → Int} {n i : Nat} (h : pm9 O n) (g : pm9 Q n) (hi : i < 7) (e : ∀ q, q < i → Q q = O q) (l : O i < Q i) : vl7 O < vl7 Q := by
  have h0 := h.1 0 (by decide); have h1 := h.1 1 (by decide); have h2 := h.1 2 (by decide); have h3 := h.1 3 (by decide)
  have h4 := h.1 4 (by decide); have h5 := h.1 5 (by decide); have h6 := h.1 6 (by decide)
  have g0 := g.1 0 (by decide); have g1 := g.1 1 (by decide); have g2 := g.1 2 (by decide); have g3 := g.1 3 (by decide)
  have g4 := g.1 4 (by decide); have g5 := g.1 5 (by decide); have g6 := g.1 6 (by decide)
  have e0 := e 0; have e1 := e 1; have e2 := e 2; have e3 := e 3; have e4 := e 4; have e5 := e 5
  unfold vl7
  rcases (by omega : i = 0 ∨ i = 1 ∨ i = 2 ∨ i = 3 ∨ i = 4 ∨ i = 5 ∨ i = 6) with q | q | q | q | q | q | q <;> subst q <;> omega
/-- what the next order is made of -/
theorem ro_f {O : Nat → Int} {n : Nat} (h : pm9 O n) (hn : n ≤ 7) (hi : 0 ≤ ro1 O n) : ∃ i j : Nat, ro1 O n = (i : Int) ∧ i < j ∧ j < n ∧ O i < O j ∧ (∀ q : Nat, i < q → q + 1 < n → O (q + 1) < O q) ∧ (∀ q : Nat, j < q → q < n → O q < O i) ∧ ro3 O n = rv (n - 1) ((i : Int) + 1) ((n : Int) - 1) (sw O i j) := by
  by_cases h2 : n < 2
  · exfalso
    have : ro1 O n < 0 := by
      unfold ro1
      rcases (by omega : n = 0 ∨ n = 1) with q | q
      · subst q; exact (by decide : (-2 : Int) < 0)
      · subst q; exact (by decide : (-1 : Int) < 0)
    omega
  have r := ri_r O ((n : Int) - 1).toNat ((n : Int) - 2) (by omega) (by omega)
  have e1 : ro1 O n = ri O ((n : Int) - 1).toNat ((n : Int) - 2) := rfl
  rw [← e1] at r
  obtain ⟨i, ei⟩ : ∃ i : Nat, ro1 O n = (i : Int) := ⟨(ro1 O n).toNat, by omega⟩
  rw [ei] at r
  have r3 := r.2.2.1 (by omega)
  rw [show ((i : Int) + 1).toNat = i + 1 by omega, Int.toNat_natCast] at r3
  have s := rj_r O (O i) ((i : Int) + 1) (by rw [show ((i : Int) + 1).toNat = i + 1 by omega]; exact r3) ((n : Int) - 1).toNat ((n : Int) - 1) (by omega) (by omega)
  have e2 : ro2 O n i = rj O (O i) ((n : Int) - 1).toNat ((n : Int) - 1) := rfl
  rw [← e2] at s
  obtain ⟨j, ej⟩ : ∃ j : Nat, ro2 O n i = (j : Int) := ⟨(ro2 O n i).toNat, by omega⟩
  rw [ej] at s
  have s3 := s.2.2.1
  rw [Int.toNat_natCast] at s3
  refine ⟨i, j, ei, by omega, by omega, ?_, ?_, ?_, ?_⟩
  · have : ¬ O i = O j := fun z => by have := h.2 i j (by omega) (by omega) z; omega
    omega
  · intro q a b
    have := r.2.2.2 (q : Int) (by omega) (by omega)
    rwa [show ((q : Int) + 1).toNat = q + 1 by omega, Int.toNat_natCast] at this
  · intro q a b
    have := s.2.2.2 (q : Int) (by omega) (by omega)
    rwa [Int.toNat_natCast] at this
  · unfold ro3
    rw [ei, Int.toNat_natCast, ej, Int.toNat_natCast, show ((n : Int) - 1).toNat = n - 1 by omega]
theorem ro_p {O : Nat → Int} {n : Nat} (h : pm9 O n) (hn : n ≤ 7) (hi : 0 ≤ ro1 O n) : pm9 (ro3 O n) n ∧ vl7 O < vl7 (ro3 O n) := by
  obtain ⟨i, j, _, hij, hj, hl, _, _, e⟩ := ro_f h hn hi
  have p : pm9 (ro3 O n) n := by
    rw [e]
    exact pm_rv hn _ _ _ _ (pm_sw h hn (by omega) hj) (by omega) (by omega)
  refine ⟨p, vl_lt h p (i := i) (by omega) ?_ ?_⟩
  · intro q hq
    rw [e, rv_lo _ _ _ _ q (by omega), sw_v, if_neg (by omega), if_neg (by omega)]
  · rw [e, rv_lo _ _ _ _ i (by omega), sw_v, if_neg (by omega), if_pos rfl]
    exact hl
def id9 (O : Nat → Int) : Nat → (Nat → Int)
  | 0 => O
  | k + 1 => ua (id9 O k) k (k : Int)
theorem id9_v (O : Nat → Int) {i : Nat} : ∀ k, i < k → id9 O k i = (i : Int)
  | 0, h => absurd h (Nat.not_lt_zero _)
  | k + 1, h => by
    unfold id9 ua
    split
    · next e => rw [e]
    · exact id9_v O k (by omega)
theorem pm_id (O : Nat → Int) (n : Nat) (hn : n ≤ 7) : pm9 (id9 O 7) n := by
  refine ⟨fun j hj => by rw [id9_v O 7 hj]; omega, fun a b ha hb e => ?_⟩
  rw [id9_v O 7 (by omega), id9_v O 7 (by omega)] at e
  omega
def lb9 (b v : Int) : Int := if 0 ≤ v ∧ (b < 0 ∨ v < b) then v else b
/-- the least over all orders -/
def ls9 (A Y W P : Nat → Int) (n hs : Nat) : Nat → Int → (Nat → Int) → (Nat → Int) → (Nat → Int) → Int × (Nat → Int) × (Nat → Int) × (Nat → Int)
  | 0, b, O, G, F => (b, O, G, F)
  | f + 1, b, O, G, F => if 0 ≤ ro1 O n then ls9 A Y W P n hs f (lb9 b (sx9 A Y W P O n hs n 0 G (zt F 3) 0 0).1) (ro3 O n) (sx9 A Y W P O n hs n 0 G (zt F 3) 0 0).2.1 (sx9 A Y W P O n hs n 0 G (zt F 3) 0 0).2.2 else (lb9 b (sx9 A Y W P O n hs n 0 G (zt F 3) 0 0).1, O, (sx9 A Y W P O n hs n 0 G (zt F 3) 0 0).2.1, (sx9 A Y W P O n hs n 0 G (zt F 3) 0 0).2.2)
def lF9 : Nat := 2097160
theorem ls9_s {A Y W P O G F : Nat → Int} {n hs g : Nat} {b b2 : Int} {R : Int × (Nat → Int) × (Nat → Int)} (hg : 0 < g) (e : sx9 A Y W P O n hs n 0 G (zt F 3) 0 0 = R) (e2 : lb9 b R.1 = b2) : ls9 A Y W P n hs g b O G F = if 0 ≤ ro1 O n then ls9 A Y W P n hs (g - 1) b2 (ro3 O n) R.2.1 R.2.2 else (b2, O, R.2.1, R.2.2) := by
  obtain ⟨g1, rfl⟩ : ∃ q, g = q + 1 := ⟨g - 1, by omega⟩
  subst e; subst e2; rfl
theorem sx9_r {A Y W P O : Nat → Int} {n hs : Nat} (hs3 : hs < 3) : ∀ (r k : Nat) (G F : Nat → Int) (last dn : Int), r + k ≤ 7 → 0 ≤ last → last ≤ 3 * (k : Int) → 0 ≤ dn → dn ≤ 3 * (k : Int) → (∀ q, q < 3 → 0 ≤ F q ∧ F q ≤ 3 * (k : Int)) → (∀ j, j < k → 0 ≤ G j ∧ G j + 2 ≤ 3 * (k : Int)) → (∀ i, inI (F i)) → (∀ i, inI (G i)) → (-1 ≤ (sx9 A Y W P O n hs r k G F last dn).1 ∧ (sx9 A Y W P O n hs r k G F last dn).1 ≤ 21) ∧ (∀ i, inI ((sx9 A Y W P O n hs r k G F last dn).2.1 i)) ∧ ∀ i, inI ((sx9 A Y W P O n hs r k G F last dn).2.2 i)
  | 0, k, G, F, last, dn, hr, h1, h2, h3, h4, h5, h6, h7, h8 => ⟨⟨by show -1 ≤ dn; omega, by show dn ≤ 21; omega⟩, h8, h7⟩
  | r + 1, k, G, F, last, dn, hr, h1, h2, h3, h4, h5, h6, h7, h8 => by
    have a := h5 (sh9 F hs) (by have := sh9_le F hs; omega)
    have b : 0 ≤ fx9q F hs last ∧ fx9q F hs last ≤ 3 * (k : Int) := by unfold fx9q; split <;> omega
    have c := be9_b (A := A) (Y := Y) (W := W) (P := P) (O := O) (n := n) h6 b.1 b.2
    have d : 2 ≤ du9 P O k ∧ du9 P O k ≤ 3 := by unfold du9; split <;> decide
    unfold sx9
    split
    · exact ⟨⟨(by decide : (-1 : Int) ≤ -1), (by decide : (-1 : Int) ≤ 21)⟩, h8, h7⟩
    · next z =>
      have e : 0 ≤ be9 A Y W P O G n k (fx9q F hs last) ∧ be9 A Y W P O G n k (fx9q F hs last) ≤ 3 * (k : Int) := by omega
      refine sx9_r hs3 r (k + 1) _ _ _ _ (by omega) (by omega) (by omega) (by split <;> omega) (by split <;> omega) ?_ ?_ (in_ua h7 (by omega)) (in_ua h8 (by omega))
      · intro q hq
        have := h5 q hq
        unfold ua
        split <;> omega
      · intro j hj
        unfold ua
        split
        · omega
        · have := h6 j (by omega)
          omega
theorem id9_in {O : Nat → Int} (h : ∀ i, inI (O i)) : ∀ {k : Nat}, k ≤ 7 → ∀ i, inI (id9 O k i)
  | 0, _, i => h i
  | k + 1, hk, i => in_ua (id9_in h (by omega)) (by omega) i
theorem sw_in {O : Nat → Int} (h : ∀ i, inI (O i)) (a b : Nat) : ∀ i, inI (sw O a b i) := in_ua (in_ua h (h b)) (h a)
theorem rv_in : ∀ (f : Nat) (a b : Int) (O : Nat → Int), (∀ i, inI (O i)) → ∀ i, inI (rv f a b O i)
  | 0, _, _, _, h, i => h i
  | f + 1, a, b, O, h, i => by
    unfold rv
    split
    · exact rv_in f _ _ _ (sw_in h _ _) i
    · exact h i
theorem ro_in {O : Nat → Int} (h : ∀ i, inI (O i)) (n : Nat) : ∀ i, inI (ro3 O n i) := rv_in _ _ _ _ (sw_in h _ _)

theorem dX12_leastSeconds_0 : decode cX12_leastSeconds 0 = .ok (.aload_n 0, 1) := by decide +kernel
theorem dX12_leastSeconds_1 : decode cX12_leastSeconds 1 = .ok (.getfield 259, 3) := by decide +kernel
theorem dX12_leastSeconds_4 : decode cX12_leastSeconds 4 = .ok (.aload_n 0, 1) := by decide +kernel
theorem dX12_leastSeconds_5 : decode cX12_leastSeconds 5 = .ok (.getfield 262, 3) := by decide +kernel
theorem dX12_leastSeconds_8 : decode cX12_leastSeconds 8 = .ok (.iadd, 1) := by decide +kernel
theorem dX12_leastSeconds_9 : decode cX12_leastSeconds 9 = .ok (.istore_n 1, 1) := by decide +kernel
theorem dX12_leastSeconds_10 : decode cX12_leastSeconds 10 = .ok (.iload_n 1, 1) := by decide +kernel
theorem dX12_leastSeconds_11 : decode cX12_leastSeconds 11 = .ok (.bipush 7, 2) := by decide +kernel
theorem dX12_leastSeconds_13 : decode cX12_leastSeconds 13 = .ok (.if_icmp .le 5, 3) := by decide +kernel
theorem dX12_leastSeconds_16 : decode cX12_leastSeconds 16 = .ok (.iconst (-1), 1) := by decide +kernel
theorem dX12_leastSeconds_17 : decode cX12_leastSeconds 17 = .ok (.ireturn, 1) := by decide +kernel
theorem dX12_leastSeconds_18 : decode cX12_leastSeconds 18 = .ok (.iconst (-1), 1) := by decide +kernel
theorem dX12_leastSeconds_19 : decode cX12_leastSeconds 19 = .ok (.istore_n 2, 1) := by decide +kernel
theorem dX12_leastSeconds_20 : decode cX12_leastSeconds 20 = .ok (.iconst 0, 1) := by decide +kernel
theorem dX12_leastSeconds_21 : decode cX12_leastSeconds 21 = .ok (.istore_n 3, 1) := by decide +kernel
theorem dX12_leastSeconds_22 : decode cX12_leastSeconds 22 = .ok (.iload_n 3, 1) := by decide +kernel
theorem dX12_leastSeconds_23 : decode cX12_leastSeconds 23 = .ok (.bipush 7, 2) := by decide +kernel
theorem dX12_leastSeconds_25 : decode cX12_leastSeconds 25 = .ok (.if_icmp .ge 16, 3) := by decide +kernel
theorem dX12_leastSeconds_28 : decode cX12_leastSeconds 28 = .ok (.aload_n 0, 1) := by decide +kernel
theorem dX12_leastSeconds_29 : decode cX12_leastSeconds 29 = .ok (.getfield 41, 3) := by decide +kernel
theorem dX12_leastSeconds_32 : decode cX12_leastSeconds 32 = .ok (.iload_n 3, 1) := by decide +kernel
theorem dX12_leastSeconds_33 : decode cX12_leastSeconds 33 = .ok (.iload_n 3, 1) := by decide +kernel
theorem dX12_leastSeconds_34 : decode cX12_leastSeconds 34 = .ok (.iastore, 1) := by decide +kernel
theorem dX12_leastSeconds_35 : decode cX12_leastSeconds 35 = .ok (.iinc 3 1, 3) := by decide +kernel
theorem dX12_leastSeconds_38 : decode cX12_leastSeconds 38 = .ok (.goto (-16), 3) := by decide +kernel
theorem dX12_leastSeconds_41 : decode cX12_leastSeconds 41 = .ok (.iconst 1, 1) := by decide +kernel
theorem dX12_leastSeconds_42 : decode cX12_leastSeconds 42 = .ok (.istore_n 3, 1) := by decide +kernel
theorem dX12_leastSeconds_43 : decode cX12_leastSeconds 43 = .ok (.iload_n 3, 1) := by decide +kernel
theorem dX12_leastSeconds_44 : decode cX12_leastSeconds 44 = .ok (.ifCond .eq 36, 3) := by decide +kernel
theorem dX12_leastSeconds_47 : decode cX12_leastSeconds 47 = .ok (.aload_n 0, 1) := by decide +kernel
theorem dX12_leastSeconds_48 : decode cX12_leastSeconds 48 = .ok (.invokevirtual 271, 3) := by decide +kernel
theorem dX12_leastSeconds_51 : decode cX12_leastSeconds 51 = .ok (.istore 4, 2) := by decide +kernel
theorem dX12_leastSeconds_53 : decode cX12_leastSeconds 53 = .ok (.iload 4, 2) := by decide +kernel
theorem dX12_leastSeconds_55 : decode cX12_leastSeconds 55 = .ok (.ifCond .lt 16, 3) := by decide +kernel
theorem dX12_leastSeconds_58 : decode cX12_leastSeconds 58 = .ok (.iload_n 2, 1) := by decide +kernel
theorem dX12_leastSeconds_59 : decode cX12_leastSeconds 59 = .ok (.ifCond .lt 9, 3) := by decide +kernel
theorem dX12_leastSeconds_62 : decode cX12_leastSeconds 62 = .ok (.iload 4, 2) := by decide +kernel
theorem dX12_leastSeconds_64 : decode cX12_leastSeconds 64 = .ok (.iload_n 2, 1) := by decide +kernel
theorem dX12_leastSeconds_65 : decode cX12_leastSeconds 65 = .ok (.if_icmp .ge 6, 3) := by decide +kernel
theorem dX12_leastSeconds_68 : decode cX12_leastSeconds 68 = .ok (.iload 4, 2) := by decide +kernel
theorem dX12_leastSeconds_70 : decode cX12_leastSeconds 70 = .ok (.istore_n 2, 1) := by decide +kernel
theorem dX12_leastSeconds_71 : decode cX12_leastSeconds 71 = .ok (.aload_n 0, 1) := by decide +kernel
theorem dX12_leastSeconds_72 : decode cX12_leastSeconds 72 = .ok (.iload_n 1, 1) := by decide +kernel
theorem dX12_leastSeconds_73 : decode cX12_leastSeconds 73 = .ok (.invokevirtual 274, 3) := by decide +kernel
theorem dX12_leastSeconds_76 : decode cX12_leastSeconds 76 = .ok (.istore_n 3, 1) := by decide +kernel
theorem dX12_leastSeconds_77 : decode cX12_leastSeconds 77 = .ok (.goto (-34), 3) := by decide +kernel
theorem dX12_leastSeconds_80 : decode cX12_leastSeconds 80 = .ok (.iload_n 2, 1) := by decide +kernel
theorem dX12_leastSeconds_81 : decode cX12_leastSeconds 81 = .ok (.ireturn, 1) := by decide +kernel
set_option maxRecDepth 100000 in
set_option maxHeartbeats 4000000 in
theorem k_leastSeconds (l : Launch) {D : va_G} {cI cZ : ClassId} {a0 : Nat} (σ : Nat → Nat → Int)  (hσ : rg σ) (hH : 1 ≤ σ 1 13 ∧ σ 1 13 ≤ 3) (hW : ∀ j, j < 7 → 0 ≤ σ 9 j ∧ σ 9 j ≤ 11) (hY : ∀ j, j < 12 → 0 ≤ σ 14 j ∧ σ 14 j ≤ 24) (hn : 0 ≤ σ 0 17 ∧ 0 ≤ σ 0 18 ∧ σ 0 17 + σ 0 18 ≤ 1000) : moM l D cI cZ a0 yX12_leastSeconds cX12_leastSeconds 5 (some .int) 3 77 [.ref a0] σ (some (.int (iz (if σ 0 17 + σ 0 18 > 7 then -1 else (ls9 (σ 1) (σ 14) (σ 9) (σ 10) (σ 0 17 + σ 0 18).toNat ((σ 1 13).toNat - 1) lF9 (-1) (id9 (σ 11) 7) (σ 12) (σ 13)).1)))) (if σ 0 17 + σ 0 18 > 7 then σ else sA (sA (sA σ 11 (ls9 (σ 1) (σ 14) (σ 9) (σ 10) (σ 0 17 + σ 0 18).toNat ((σ 1 13).toNat - 1) lF9 (-1) (id9 (σ 11) 7) (σ 12) (σ 13)).2.1) 12 (ls9 (σ 1) (σ 14) (σ 9) (σ 10) (σ 0 17 + σ 0 18).toNat ((σ 1 13).toNat - 1) lF9 (-1) (id9 (σ 11) 7) (σ 12) (σ 13)).2.2.1) 13 (ls9 (σ 1) (σ 14) (σ 9) (σ 10) (σ 0 17 + σ 0 18).toNat ((σ 1 13).toNat - 1) lF9 (-1) (id9 (σ 11) 7) (σ 12) (σ 13)).2.2.2) := by
  refine mo_start (by decide) rfl (Nat.le_of_ble_eq_true rfl) ?_
  intro p e s m args below meth c C K hr hlk
  refine hv_aload_n C 0 0 dX12_leastSeconds_0 rfl rfl ?_
  refine mo_geti C K (x := (σ 0 17)) 17 (by decide) rfl mo_hw fl_259 rfl dX12_leastSeconds_1 ?_
  refine hv_nm (fun x1 ex1 => ?_)
  have rx1 : inI x1 := by rw [ex1]; exact hσ 0 17
  refine hv_aload_n C 0 0 dX12_leastSeconds_4 rfl rfl ?_
  refine mo_geti C K (x := (σ 0 18)) 18 (by decide) rfl mo_hw fl_262 rfl dX12_leastSeconds_5 ?_
  refine hv_nm (fun x2 ex2 => ?_)
  have rx2 : inI x2 := by rw [ex2]; exact hσ 0 18
  refine hv_iadd C dX12_leastSeconds_8 ?_
  refine hv_as ((((σ 0 17 + σ 0 18).toNat : Nat) : Int)) (by omega) ?_
  refine hv_istore_n C 1 [(1, .int (iz (((σ 0 17 + σ 0 18).toNat : Nat) : Int))), (0, .ref a0)] dX12_leastSeconds_9 rfl (by decide) rfl ?_
  refine hv_iload_n C 1 0 dX12_leastSeconds_10 rfl rfl ?_
  refine hv_bipush C dX12_leastSeconds_11 (by decide) ?_
  refine hv_icmp_le C 18 dX12_leastSeconds_13 (by decide) (by omega) (by omega) (fun h13 => ?_) (fun h13 => ?_)
  · skip
    refine hv_iconst C dX12_leastSeconds_18 ?_
    refine hv_istore_n C 2 [(2, .int (iz (-1))), (1, .int (iz (((σ 0 17 + σ 0 18).toNat : Nat) : Int))), (0, .ref a0)] dX12_leastSeconds_19 rfl (by decide) rfl ?_
    refine hv_iconst C dX12_leastSeconds_20 ?_
    refine hv_istore_n C 3 [(3, .int (iz 0)), (2, .int (iz (-1))), (1, .int (iz (((σ 0 17 + σ 0 18).toNat : Nat) : Int))), (0, .ref a0)] dX12_leastSeconds_21 rfl (by decide) rfl ?_
    have L22 : ∀ (f : Nat) (k : Nat) (O1 : Nat → Int), 7 - k < f → (k ≤ 7) → (O1 = id9 (σ 11) k) → hvV p l e { frames := 3, cells := 0, slots := 0, locals := 77 } s m args below meth c 5 (moR a0) 0 0 (MQ below (moQ D cI cZ a0 (some (.int (iz (if σ 0 17 + σ 0 18 > 7 then -1 else (ls9 (σ 1) (σ 14) (σ 9) (σ 10) (σ 0 17 + σ 0 18).toNat ((σ 1 13).toNat - 1) lF9 (-1) (id9 (σ 11) 7) (σ 12) (σ 13)).1)))) (if σ 0 17 + σ 0 18 > 7 then σ else sA (sA (sA σ 11 (ls9 (σ 1) (σ 14) (σ 9) (σ 10) (σ 0 17 + σ 0 18).toNat ((σ 1 13).toNat - 1) lF9 (-1) (id9 (σ 11) 7) (σ 12) (σ 13)).2.1) 12 (ls9 (σ 1) (σ 14) (σ 9) (σ 10) (σ 0 17 + σ 0 18).toNat ((σ 1 13).toNat - 1) lF9 (-1) (id9 (σ 11) 7) (σ 12) (σ 13)).2.2.1) 13 (ls9 (σ 1) (σ 14) (σ 9) (σ 10) (σ 0 17 + σ 0 18).toNat ((σ 1 13).toNat - 1) lF9 (-1) (id9 (σ 11) 7) (σ 12) (σ 13)).2.2.2)) args s 0 0 (moR a0)) (moI D cI cZ a0 s.heap (sA σ 11 O1)) 22 [(0, .ref a0), (1, .int (iz (((σ 0 17 + σ 0 18).toNat : Nat) : Int))), (2, .int (iz (-1))), (3, .int (iz ((k : Nat) : Int)))] [] := by
      intro f
      induction f with
      | zero => intro _ _ hm; exact absurd hm (Nat.not_lt_zero _)
      | succ f ih22 =>
        intro k O1 hm22 hk hO1
        refine hv_iload_n C 3 3 dX12_leastSeconds_22 rfl rfl ?_
        refine hv_bipush C dX12_leastSeconds_23 (by decide) ?_
        refine hv_icmp_ge C 41 dX12_leastSeconds_25 (by decide) (by omega) (by omega) (fun h25 => ?_) (fun h25 => ?_)
        · skip
          refine hv_iconst C dX12_leastSeconds_41 ?_
          refine hv_istore_n C 3 [(3, .int (iz 1)), (0, .ref a0), (1, .int (iz (((σ 0 17 + σ 0 18).toNat : Nat) : Int))), (2, .int (iz (-1)))] dX12_leastSeconds_42 rfl (by decide) rfl ?_
          have L43 : ∀ (f : Nat) (best : Int) (more : Bool) (O9 : Nat → Int) (G9 : Nat → Int) (F9 : Nat → Int) (g : Nat), g < f → (-1 ≤ best ∧ best ≤ 21) → (pm9 O9 (σ 0 17 + σ 0 18).toNat) → (∀ i, inI (O9 i)) → (∀ i, inI (G9 i)) → (∀ i, inI (F9 i)) → (more = true → 2097152 - vl7 O9 < (g : Int)) → ((if more = true then ls9 (σ 1) (σ 14) (σ 9) (σ 10) (σ 0 17 + σ 0 18).toNat ((σ 1 13).toNat - 1) g best O9 G9 F9 else (best, O9, G9, F9)) = (ls9 (σ 1) (σ 14) (σ 9) (σ 10) (σ 0 17 + σ 0 18).toNat ((σ 1 13).toNat - 1) lF9 (-1) (id9 (σ 11) 7) (σ 12) (σ 13))) → hvV p l e { frames := 3, cells := 0, slots := 0, locals := 77 } s m args below meth c 5 (moR a0) 0 0 (MQ below (moQ D cI cZ a0 (some (.int (iz (if σ 0 17 + σ 0 18 > 7 then -1 else (ls9 (σ 1) (σ 14) (σ 9) (σ 10) (σ 0 17 + σ 0 18).toNat ((σ 1 13).toNat - 1) lF9 (-1) (id9 (σ 11) 7) (σ 12) (σ 13)).1)))) (if σ 0 17 + σ 0 18 > 7 then σ else sA (sA (sA σ 11 (ls9 (σ 1) (σ 14) (σ 9) (σ 10) (σ 0 17 + σ 0 18).toNat ((σ 1 13).toNat - 1) lF9 (-1) (id9 (σ 11) 7) (σ 12) (σ 13)).2.1) 12 (ls9 (σ 1) (σ 14) (σ 9) (σ 10) (σ 0 17 + σ 0 18).toNat ((σ 1 13).toNat - 1) lF9 (-1) (id9 (σ 11) 7) (σ 12) (σ 13)).2.2.1) 13 (ls9 (σ 1) (σ 14) (σ 9) (σ 10) (σ 0 17 + σ 0 18).toNat ((σ 1 13).toNat - 1) lF9 (-1) (id9 (σ 11) 7) (σ 12) (σ 13)).2.2.2)) args s 0 0 (moR a0)) (moI D cI cZ a0 s.heap (sA (sA (sA σ 11 O9) 12 G9) 13 F9)) 43 [(0, .ref a0), (1, .int (iz (((σ 0 17 + σ 0 18).toNat : Nat) : Int))), (2, .int (iz best)), (3, .int (iz (xb (more))))] [] := by
            intro f
            induction f with
            | zero => intro _ _ _ _ _ _ hm; exact absurd hm (Nat.not_lt_zero _)
            | succ f ih43 =>
              intro best more O9 G9 F9 g hm43 hb hpm hOr hGr hFr hg hr9
              refine hv_iload_n C 3 3 dX12_leastSeconds_43 rfl rfl ?_
              refine hv_bif_eq C 80 dX12_leastSeconds_44 (by decide)  (fun h44 => ?_) (fun h44 => ?_)
              · skip
                refine hv_iload_n C 2 2 dX12_leastSeconds_80 rfl rfl ?_
                exact mo_iret (Qc := fun _ _ _ _ => True) C hr hlk (by first | exact if_p (by omega) rfl | (refine if_n (by omega) ?_; rw [← hr9, if_neg (by rw [h44]; decide)])) (by first | exact if_p (by omega) rfl | (refine if_n (by omega) ?_; rw [← hr9, if_neg (by rw [h44]; decide)])) dX12_leastSeconds_81
              · skip
                have zn9 : (σ 0 17 + σ 0 18).toNat ≤ 7 := by omega
                refine hv_aload_n C 0 0 dX12_leastSeconds_47 rfl rfl ?_
                refine mo_call [] [] C K (k_seconds l (sA (sA (sA σ 11 O9) 12 G9) 13 F9)  (by repeat (first | assumption | refine rg_sA ?_ ?_ | refine in_ua ?_ (by omega) | exact fun _ => hσ _ _)) hH hpm.1 hW hY (show 0 ≤ σ 0 17 ∧ 0 ≤ σ 0 18 ∧ σ 0 17 + σ 0 18 ≤ 7 by omega)) ck_seconds (by decide) rfl (Nat.le_of_ble_eq_true rfl) dX12_leastSeconds_48 ?_
                refine hv_as (((sx9 (σ 1) (σ 14) (σ 9) (σ 10) O9 ((σ 0 17) + (σ 0 18)).toNat (((σ 1) 13).toNat - 1) ((σ 0 17) + (σ 0 18)).toNat 0 G9 (zt F9 3) 0 0).1)) rfl ?_
                refine mo_st (σ2 := sA (sA (sA σ 11 O9) 12 (sx9 (σ 1) (σ 14) (σ 9) (σ 10) O9 (σ 0 17 + σ 0 18).toNat (((σ 1) 13).toNat - 1) (σ 0 17 + σ 0 18).toNat 0 G9 (zt F9 3) 0 0).2.1) 13 (sx9 (σ 1) (σ 14) (σ 9) (σ 10) O9 (σ 0 17 + σ 0 18).toNat (((σ 1) 13).toNat - 1) (σ 0 17 + σ 0 18).toNat 0 G9 (zt F9 3) 0 0).2.2) (by first | exact s1213 _ _ _ _ _ _ | exact s11if _ _ _ _ _ _) ?_
                refine hv_nm (fun x3 ex3 => ?_)
                have rx3 : inI x3 := by rw [ex3]; exact (by have z := (sx9_r (A := σ 1) (Y := σ 14) (W := σ 9) (P := σ 10) (O := O9) (n := (σ 0 17 + σ 0 18).toNat) (hs := ((σ 1 13).toNat - 1)) (by omega) ((σ 0 17 + σ 0 18).toNat) 0 G9 (zt F9 3) 0 0 (by omega) (by omega) (by omega) (by omega) (by omega) (fun q z => by rw [zt_0 _ _ _ z]; omega) (fun j z => absurd z (Nat.not_lt_zero _)) (zt_in hFr _) hGr).1; exact ⟨by omega, by omega⟩)
                refine hv_istore C 4 [(4, .int (iz x3)), (0, .ref a0), (1, .int (iz (((σ 0 17 + σ 0 18).toNat : Nat) : Int))), (2, .int (iz best)), (3, .int (iz (xb (more))))] dX12_leastSeconds_51 (by decide) rfl ?_
                obtain ⟨G2, eG2⟩ : ∃ xq9 : Nat → Int, xq9 = (sx9 (σ 1) (σ 14) (σ 9) (σ 10) O9 (σ 0 17 + σ 0 18).toNat (((σ 1) 13).toNat - 1) (σ 0 17 + σ 0 18).toNat 0 G9 (zt F9 3) 0 0).2.1 := ⟨_, rfl⟩
                refine mo_st (σ2 := sA (sA (sA σ 11 O9) 12 G2) 13 (sx9 (σ 1) (σ 14) (σ 9) (σ 10) O9 (σ 0 17 + σ 0 18).toNat (((σ 1) 13).toNat - 1) (σ 0 17 + σ 0 18).toNat 0 G9 (zt F9 3) 0 0).2.2) (by rw [eG2]) ?_
                obtain ⟨F2, eF2⟩ : ∃ xq9 : Nat → Int, xq9 = (sx9 (σ 1) (σ 14) (σ 9) (σ 10) O9 (σ 0 17 + σ 0 18).toNat (((σ 1) 13).toNat - 1) (σ 0 17 + σ 0 18).toNat 0 G9 (zt F9 3) 0 0).2.2 := ⟨_, rfl⟩
                refine mo_st (σ2 := sA (sA (sA σ 11 O9) 12 G2) 13 F2) (by rw [eF2]) ?_
                have zx9 := sx9_r (A := σ 1) (Y := σ 14) (W := σ 9) (P := σ 10) (O := O9) (n := (σ 0 17 + σ 0 18).toNat) (hs := ((σ 1 13).toNat - 1)) (by omega) ((σ 0 17 + σ 0 18).toNat) 0 G9 (zt F9 3) 0 0 (by omega) (by omega) (by omega) (by omega) (by omega) (fun q z => by rw [zt_0 _ _ _ z]; omega) (fun j z => absurd z (Nat.not_lt_zero _)) (zt_in hFr _) hGr
                have zG2 : ∀ i, inI (G2 i) := by rw [eG2]; exact zx9.2.1
                have zF2 : ∀ i, inI (F2 i) := by rw [eF2]; exact zx9.2.2
                refine hv_iload C 4 0 dX12_leastSeconds_53 rfl ?_
                refine hv_if_lt C 71 dX12_leastSeconds_55 (by decide) (by omega) (fun h55 => ?_) (fun h55 => ?_)
                · skip
                  have zlb : lb9 best ((sx9 (σ 1) (σ 14) (σ 9) (σ 10) O9 (σ 0 17 + σ 0 18).toNat ((σ 1 13).toNat - 1) (σ 0 17 + σ 0 18).toNat 0 G9 (zt F9 3) 0 0)).1 = best := by unfold lb9; first | (rw [if_pos (by omega)]; omega) | (rw [if_neg (by omega)])
                  have zg := hg h44
                  have zr9 := hr9
                  rw [if_pos h44, ls9_s (by have z := vl_r hpm; omega) rfl zlb, ← eG2, ← eF2] at zr9
                  refine hv_aload_n C 0 1 dX12_leastSeconds_71 rfl rfl ?_
                  refine hv_iload_n C 1 2 dX12_leastSeconds_72 rfl rfl ?_
                  refine mo_call [.int (iz (((σ 0 17 + σ 0 18).toNat : Nat) : Int))] [] C K (k_reorders l (sA (sA (sA σ 11 O9) 12 G2) 13 F2) ((σ 0 17 + σ 0 18).toNat) (by repeat (first | assumption | refine rg_sA ?_ ?_ | refine in_ua ?_ (by omega) | exact fun _ => hσ _ _)) zn9) ck_reorders (by decide) rfl (Nat.le_of_ble_eq_true rfl) dX12_leastSeconds_73 ?_
                  refine hv_as (xb (decide (0 ≤ ro1 O9 (((σ 0 17) + (σ 0 18)).toNat)))) rfl ?_
                  refine mo_st (σ2 := sA (sA (sA σ 11 (if 0 ≤ ro1 O9 ((σ 0 17 + σ 0 18).toNat) then ro3 O9 ((σ 0 17 + σ 0 18).toNat) else O9)) 12 G2) 13 F2) (by first | exact s1213 _ _ _ _ _ _ | exact s11if _ _ _ _ _ _) ?_
                  refine hv_istore_n C 3 [(3, .int (iz (xb (decide (0 ≤ ro1 O9 (((σ 0 17) + (σ 0 18)).toNat)))))), (4, .int (iz x3)), (0, .ref a0), (1, .int (iz (((σ 0 17 + σ 0 18).toNat : Nat) : Int))), (2, .int (iz best))] dX12_leastSeconds_76 rfl (by decide) rfl ?_
                  refine hv_goto C 43 dX12_leastSeconds_77 (by decide) ?_
                  refine hv_loc [2, 3, 4, 0] [(0, .ref a0), (1, .int (iz (((σ 0 17 + σ 0 18).toNat : Nat) : Int))), (2, .int (iz best)), (3, .int (iz (xb (decide (0 ≤ ro1 O9 (((σ 0 17) + (σ 0 18)).toNat))))))] rfl ?_
                  exact ih43 best (decide (0 ≤ ro1 O9 (((σ 0 17) + (σ 0 18)).toNat))) (if 0 ≤ ro1 O9 ((σ 0 17 + σ 0 18).toNat) then ro3 O9 ((σ 0 17 + σ 0 18).toNat) else O9) G2 F2 (g - 1) (by have z := vl_r hpm; omega) (by omega) (by split; (exact (ro_p hpm zn9 (by assumption)).1); (exact hpm)) (by split; (exact ro_in hOr _); (exact hOr)) zG2 zF2 (fun zt9 => by have zc9 : 0 ≤ ro1 O9 (σ 0 17 + σ 0 18).toNat := of_decide_eq_true zt9; have z := (ro_p hpm zn9 zc9).2; rw [if_pos zc9]; omega) (by rw [← zr9]; by_cases zc9 : 0 ≤ ro1 O9 (σ 0 17 + σ 0 18).toNat; (rw [if_pos (decide_eq_true zc9), if_pos zc9, if_pos zc9]); (rw [if_neg (by rw [decide_eq_false zc9]; decide), if_neg zc9, if_neg zc9]))
                · skip
                  refine hv_iload_n C 2 3 dX12_leastSeconds_58 rfl rfl ?_
                  refine hv_if_lt C 68 dX12_leastSeconds_59 (by decide) (by omega) (fun h59 => ?_) (fun h59 => ?_)
                  · skip
                    refine hv_iload C 4 0 dX12_leastSeconds_68 rfl ?_
                    refine hv_istore_n C 2 [(2, .int (iz x3)), (4, .int (iz x3)), (0, .ref a0), (1, .int (iz (((σ 0 17 + σ 0 18).toNat : Nat) : Int))), (3, .int (iz (xb (more))))] dX12_leastSeconds_70 rfl (by decide) rfl ?_
                    have zlb : lb9 best ((sx9 (σ 1) (σ 14) (σ 9) (σ 10) O9 (σ 0 17 + σ 0 18).toNat ((σ 1 13).toNat - 1) (σ 0 17 + σ 0 18).toNat 0 G9 (zt F9 3) 0 0)).1 = x3 := by unfold lb9; first | (rw [if_pos (by omega)]; omega) | (rw [if_neg (by omega)])
                    have zg := hg h44
                    have zr9 := hr9
                    rw [if_pos h44, ls9_s (by have z := vl_r hpm; omega) rfl zlb, ← eG2, ← eF2] at zr9
                    refine hv_aload_n C 0 2 dX12_leastSeconds_71 rfl rfl ?_
                    refine hv_iload_n C 1 3 dX12_leastSeconds_72 rfl rfl ?_
                    refine mo_call [.int (iz (((σ 0 17 + σ 0 18).toNat : Nat) : Int))] [] C K (k_reorders l (sA (sA (sA σ 11 O9) 12 G2) 13 F2) ((σ 0 17 + σ 0 18).toNat) (by repeat (first | assumption | refine rg_sA ?_ ?_ | refine in_ua ?_ (by omega) | exact fun _ => hσ _ _)) zn9) ck_reorders (by decide) rfl (Nat.le_of_ble_eq_true rfl) dX12_leastSeconds_73 ?_
                    refine hv_as (xb (decide (0 ≤ ro1 O9 (((σ 0 17) + (σ 0 18)).toNat)))) rfl ?_
                    refine mo_st (σ2 := sA (sA (sA σ 11 (if 0 ≤ ro1 O9 ((σ 0 17 + σ 0 18).toNat) then ro3 O9 ((σ 0 17 + σ 0 18).toNat) else O9)) 12 G2) 13 F2) (by first | exact s1213 _ _ _ _ _ _ | exact s11if _ _ _ _ _ _) ?_
                    refine hv_istore_n C 3 [(3, .int (iz (xb (decide (0 ≤ ro1 O9 (((σ 0 17) + (σ 0 18)).toNat)))))), (2, .int (iz x3)), (4, .int (iz x3)), (0, .ref a0), (1, .int (iz (((σ 0 17 + σ 0 18).toNat : Nat) : Int)))] dX12_leastSeconds_76 rfl (by decide) rfl ?_
                    refine hv_goto C 43 dX12_leastSeconds_77 (by decide) ?_
                    refine hv_loc [3, 4, 1, 0] [(0, .ref a0), (1, .int (iz (((σ 0 17 + σ 0 18).toNat : Nat) : Int))), (2, .int (iz x3)), (3, .int (iz (xb (decide (0 ≤ ro1 O9 (((σ 0 17) + (σ 0 18)).toNat))))))] rfl ?_
                    exact ih43 x3 (decide (0 ≤ ro1 O9 (((σ 0 17) + (σ 0 18)).toNat))) (if 0 ≤ ro1 O9 ((σ 0 17 + σ 0 18).toNat) then ro3 O9 ((σ 0 17 + σ 0 18).toNat) else O9) G2 F2 (g - 1) (by have z := vl_r hpm; omega) (by omega) (by split; (exact (ro_p hpm zn9 (by assumption)).1); (exact hpm)) (by split; (exact ro_in hOr _); (exact hOr)) zG2 zF2 (fun zt9 => by have zc9 : 0 ≤ ro1 O9 (σ 0 17 + σ 0 18).toNat := of_decide_eq_true zt9; have z := (ro_p hpm zn9 zc9).2; rw [if_pos zc9]; omega) (by rw [← zr9]; by_cases zc9 : 0 ≤ ro1 O9 (σ 0 17 + σ 0 18).toNat; (rw [if_pos (decide_eq_true zc9), if_pos zc9, if_pos zc9]); (rw [if_neg (by rw [decide_eq_false zc9]; decide), if_neg zc9, if_neg zc9]))
                  · skip
                    refine hv_iload C 4 0 dX12_leastSeconds_62 rfl ?_
                    refine hv_iload_n C 2 3 dX12_leastSeconds_64 rfl rfl ?_
                    refine hv_icmp_ge C 71 dX12_leastSeconds_65 (by decide) (by omega) (by omega) (fun h65 => ?_) (fun h65 => ?_)
                    · skip
                      have zlb : lb9 best ((sx9 (σ 1) (σ 14) (σ 9) (σ 10) O9 (σ 0 17 + σ 0 18).toNat ((σ 1 13).toNat - 1) (σ 0 17 + σ 0 18).toNat 0 G9 (zt F9 3) 0 0)).1 = best := by unfold lb9; first | (rw [if_pos (by omega)]; omega) | (rw [if_neg (by omega)])
                      have zg := hg h44
                      have zr9 := hr9
                      rw [if_pos h44, ls9_s (by have z := vl_r hpm; omega) rfl zlb, ← eG2, ← eF2] at zr9
                      refine hv_aload_n C 0 1 dX12_leastSeconds_71 rfl rfl ?_
                      refine hv_iload_n C 1 2 dX12_leastSeconds_72 rfl rfl ?_
                      refine mo_call [.int (iz (((σ 0 17 + σ 0 18).toNat : Nat) : Int))] [] C K (k_reorders l (sA (sA (sA σ 11 O9) 12 G2) 13 F2) ((σ 0 17 + σ 0 18).toNat) (by repeat (first | assumption | refine rg_sA ?_ ?_ | refine in_ua ?_ (by omega) | exact fun _ => hσ _ _)) zn9) ck_reorders (by decide) rfl (Nat.le_of_ble_eq_true rfl) dX12_leastSeconds_73 ?_
                      refine hv_as (xb (decide (0 ≤ ro1 O9 (((σ 0 17) + (σ 0 18)).toNat)))) rfl ?_
                      refine mo_st (σ2 := sA (sA (sA σ 11 (if 0 ≤ ro1 O9 ((σ 0 17 + σ 0 18).toNat) then ro3 O9 ((σ 0 17 + σ 0 18).toNat) else O9)) 12 G2) 13 F2) (by first | exact s1213 _ _ _ _ _ _ | exact s11if _ _ _ _ _ _) ?_
                      refine hv_istore_n C 3 [(3, .int (iz (xb (decide (0 ≤ ro1 O9 (((σ 0 17) + (σ 0 18)).toNat)))))), (4, .int (iz x3)), (0, .ref a0), (1, .int (iz (((σ 0 17 + σ 0 18).toNat : Nat) : Int))), (2, .int (iz best))] dX12_leastSeconds_76 rfl (by decide) rfl ?_
                      refine hv_goto C 43 dX12_leastSeconds_77 (by decide) ?_
                      refine hv_loc [2, 3, 4, 0] [(0, .ref a0), (1, .int (iz (((σ 0 17 + σ 0 18).toNat : Nat) : Int))), (2, .int (iz best)), (3, .int (iz (xb (decide (0 ≤ ro1 O9 (((σ 0 17) + (σ 0 18)).toNat))))))] rfl ?_
                      exact ih43 best (decide (0 ≤ ro1 O9 (((σ 0 17) + (σ 0 18)).toNat))) (if 0 ≤ ro1 O9 ((σ 0 17 + σ 0 18).toNat) then ro3 O9 ((σ 0 17 + σ 0 18).toNat) else O9) G2 F2 (g - 1) (by have z := vl_r hpm; omega) (by omega) (by split; (exact (ro_p hpm zn9 (by assumption)).1); (exact hpm)) (by split; (exact ro_in hOr _); (exact hOr)) zG2 zF2 (fun zt9 => by have zc9 : 0 ≤ ro1 O9 (σ 0 17 + σ 0 18).toNat := of_decide_eq_true zt9; have z := (ro_p hpm zn9 zc9).2; rw [if_pos zc9]; omega) (by rw [← zr9]; by_cases zc9 : 0 ≤ ro1 O9 (σ 0 17 + σ 0 18).toNat; (rw [if_pos (decide_eq_true zc9), if_pos zc9, if_pos zc9]); (rw [if_neg (by rw [decide_eq_false zc9]; decide), if_neg zc9, if_neg zc9]))
                    · skip
                      refine hv_iload C 4 0 dX12_leastSeconds_68 rfl ?_
                      refine hv_istore_n C 2 [(2, .int (iz x3)), (4, .int (iz x3)), (0, .ref a0), (1, .int (iz (((σ 0 17 + σ 0 18).toNat : Nat) : Int))), (3, .int (iz (xb (more))))] dX12_leastSeconds_70 rfl (by decide) rfl ?_
                      have zlb : lb9 best ((sx9 (σ 1) (σ 14) (σ 9) (σ 10) O9 (σ 0 17 + σ 0 18).toNat ((σ 1 13).toNat - 1) (σ 0 17 + σ 0 18).toNat 0 G9 (zt F9 3) 0 0)).1 = x3 := by unfold lb9; first | (rw [if_pos (by omega)]; omega) | (rw [if_neg (by omega)])
                      have zg := hg h44
                      have zr9 := hr9
                      rw [if_pos h44, ls9_s (by have z := vl_r hpm; omega) rfl zlb, ← eG2, ← eF2] at zr9
                      refine hv_aload_n C 0 2 dX12_leastSeconds_71 rfl rfl ?_
                      refine hv_iload_n C 1 3 dX12_leastSeconds_72 rfl rfl ?_
                      refine mo_call [.int (iz (((σ 0 17 + σ 0 18).toNat : Nat) : Int))] [] C K (k_reorders l (sA (sA (sA σ 11 O9) 12 G2) 13 F2) ((σ 0 17 + σ 0 18).toNat) (by repeat (first | assumption | refine rg_sA ?_ ?_ | refine in_ua ?_ (by omega) | exact fun _ => hσ _ _)) zn9) ck_reorders (by decide) rfl (Nat.le_of_ble_eq_true rfl) dX12_leastSeconds_73 ?_
                      refine hv_as (xb (decide (0 ≤ ro1 O9 (((σ 0 17) + (σ 0 18)).toNat)))) rfl ?_
                      refine mo_st (σ2 := sA (sA (sA σ 11 (if 0 ≤ ro1 O9 ((σ 0 17 + σ 0 18).toNat) then ro3 O9 ((σ 0 17 + σ 0 18).toNat) else O9)) 12 G2) 13 F2) (by first | exact s1213 _ _ _ _ _ _ | exact s11if _ _ _ _ _ _) ?_
                      refine hv_istore_n C 3 [(3, .int (iz (xb (decide (0 ≤ ro1 O9 (((σ 0 17) + (σ 0 18)).toNat)))))), (2, .int (iz x3)), (4, .int (iz x3)), (0, .ref a0), (1, .int (iz (((σ 0 17 + σ 0 18).toNat : Nat) : Int)))] dX12_leastSeconds_76 rfl (by decide) rfl ?_
                      refine hv_goto C 43 dX12_leastSeconds_77 (by decide) ?_
                      refine hv_loc [3, 4, 1, 0] [(0, .ref a0), (1, .int (iz (((σ 0 17 + σ 0 18).toNat : Nat) : Int))), (2, .int (iz x3)), (3, .int (iz (xb (decide (0 ≤ ro1 O9 (((σ 0 17) + (σ 0 18)).toNat))))))] rfl ?_
                      exact ih43 x3 (decide (0 ≤ ro1 O9 (((σ 0 17) + (σ 0 18)).toNat))) (if 0 ≤ ro1 O9 ((σ 0 17 + σ 0 18).toNat) then ro3 O9 ((σ 0 17 + σ 0 18).toNat) else O9) G2 F2 (g - 1) (by have z := vl_r hpm; omega) (by omega) (by split; (exact (ro_p hpm zn9 (by assumption)).1); (exact hpm)) (by split; (exact ro_in hOr _); (exact hOr)) zG2 zF2 (fun zt9 => by have zc9 : 0 ≤ ro1 O9 (σ 0 17 + σ 0 18).toNat := of_decide_eq_true zt9; have z := (ro_p hpm zn9 zc9).2; rw [if_pos zc9]; omega) (by rw [← zr9]; by_cases zc9 : 0 ≤ ro1 O9 (σ 0 17 + σ 0 18).toNat; (rw [if_pos (decide_eq_true zc9), if_pos zc9, if_pos zc9]); (rw [if_neg (by rw [decide_eq_false zc9]; decide), if_neg zc9, if_neg zc9]))
          refine hv_loc [1, 2, 3, 0] [(0, .ref a0), (1, .int (iz (((σ 0 17 + σ 0 18).toNat : Nat) : Int))), (2, .int (iz (-1))), (3, .int (iz 1))] rfl ?_
          refine mo_st (σ2 := sA (sA σ 11 O1) 12 (σ 12)) ((sA_id (sA σ 11 O1) 12).symm) ?_
          refine mo_st (σ2 := sA (sA (sA σ 11 O1) 12 (σ 12)) 13 (σ 13)) ((sA_id (sA (sA σ 11 O1) 12 (σ 12)) 13).symm) ?_
          exact L43 _ (-1) true O1 (σ 12) (σ 13) lF9 (Nat.lt_succ_self _) (by omega) (by rw [hO1, show k = 7 by omega]; exact pm_id _ _ (by omega)) (by rw [hO1]; exact id9_in (fun i => hσ 11 i) (by omega)) (fun i => hσ 12 i) (fun i => hσ 13 i) (fun _ => by rw [hO1, show k = 7 by omega]; have z := vl_r (pm_id (σ 11) 0 (by omega)); unfold lF9; omega) (by rw [if_pos rfl, hO1, show k = 7 by omega])
        · skip
          refine hv_aload_n C 0 0 dX12_leastSeconds_28 rfl rfl ?_
          refine mo_geta C K 21 11 (by decide) rfl mo_hw fl_41 rfl dX12_leastSeconds_29 ?_
          refine hv_iload_n C 3 3 dX12_leastSeconds_32 rfl rfl ?_
          refine hv_iload_n C 3 3 dX12_leastSeconds_33 rfl rfl ?_
          refine mo_iast C K 11 7 k rfl (moW_set11 _ _ _ _ _ _) (by omega) (by omega) (by decide) dX12_leastSeconds_34 ?_
          refine mo_st (σ2 := sA σ 11 (ua O1 k ((k : Nat) : Int))) (by rw [u2_sA, sA_sA]; first | done | rfl) ?_
          refine hv_iinc C 3 3 [(3, .int (iz (((k : Nat) : Int) + 1))), (0, .ref a0), (1, .int (iz (((σ 0 17 + σ 0 18).toNat : Nat) : Int))), (2, .int (iz (-1)))] dX12_leastSeconds_35 rfl (by decide) rfl ?_
          refine hv_goto C 22 dX12_leastSeconds_38 (by decide) ?_
          refine hv_loc [1, 2, 3, 0] [(0, .ref a0), (1, .int (iz (((σ 0 17 + σ 0 18).toNat : Nat) : Int))), (2, .int (iz (-1))), (3, .int (iz (((k : Nat) : Int) + 1)))] rfl ?_
          exact ih22 (k + 1) (ua O1 k ((k : Nat) : Int)) (by omega) (by omega) (by rw [hO1]; rfl)
    refine hv_loc [3, 2, 1, 0] [(0, .ref a0), (1, .int (iz (((σ 0 17 + σ 0 18).toNat : Nat) : Int))), (2, .int (iz (-1))), (3, .int (iz 0))] rfl ?_
    refine mo_st (σ2 := sA σ 11 (σ 11)) ((sA_id σ 11).symm) ?_
    exact L22 _ 0 (σ 11) (Nat.lt_succ_self _) (by omega) rfl
  · skip
    refine hv_iconst C dX12_leastSeconds_16 ?_
    exact mo_iret (Qc := fun _ _ _ _ => True) C hr hlk (by first | exact if_p (by omega) rfl | (refine if_n (by omega) ?_; rw [← hr9, if_neg (by rw [h44]; decide)])) (by first | exact if_p (by omega) rfl | (refine if_n (by omega) ?_; rw [← hr9, if_neg (by rw [h44]; decide)])) dX12_leastSeconds_17
