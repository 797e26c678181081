/-- a method that leaves the class's lists and rows as they were, and scratch cells as it likes -/
def zs_M (l : Launch) (D : va_G) (ar : Nat → ClassId) (B : Nat → Prop) (b : Nat) (w0 : zcW) (n : Nat) (y : MethodName) (cc : ByteArray) (mL : Nat) (ret : Option FieldType) (fr lo : Nat) (as : List Value) (τ : Nat → Nat → Int) (r : Option Value) (F : (Nat → Nat → Int) → Nat → Nat → Int) : Prop :=
  zc_M l D ar B y cc mL ret fr lo 0 0 as (cw ar b τ w0) n (fun r' w' n' => r' = r ∧ (∃ X, w' = cw ar b (F X) w0) ∧ n' = n)
section ZS
variable {p : Program} {l : Launch} {e : Env} {R : Room} {s : State} {m : MethodId} {args : Array Value} {below : List Frame} {meth : Method} {c : Code} {nL : Nat} {Q : State → Prop} {pc : Nat} {loc : List (Nat × Value)} {stk : List Value} {cc : ByteArray} {D : va_G} {ar : Nat → ClassId} {B : Nat → Prop} {b n : Nat} {w0 : zcW} {τ : Nat → Nat → Int} {H0 : Heap} {own : String} {cells slots : Nat} {F : (Nat → Nat → Int) → Nat → Nat → Int}
theorem zs_callV {y : MethodName} {bytes : ByteArray} {maxL : Nat} {ret : Option FieldType} {fr lo idx a ci : Nat} {fs : List Value} {q : vw_C} {r : Option Value} (As rest : List Value) (C : CallFix p m c cc nL s args hk_tb own) (K : clK D ar s) (hw : cw ar b τ w0 a = some (.inr (ci, fs))) (hc : vwCl[ci]? = some q) (hM : zs_M l D ar B b w0 n y bytes maxL ret fr lo (.ref a :: As) τ r F) (ck : zcV own q.1 y bytes maxL ret idx As.length) (hR : fr + 1 ≤ R.frames ∧ 8 + (maxL + 11) + lo ≤ R.locals) (hf : cells ≤ R.cells ∧ slots ≤ R.slots) (hs : stk = As.reverse ++ .ref a :: rest) (hW : (rest.map fun v => v.category).sum ≤ 8) (d : decode cc pc = .ok (.invokevirtual idx, 3)) (k : ∀ X, hvV p l e R s m args below meth c nL B cells slots Q (zc_I D B (cw ar b (F X) w0) n H0) (pc + 3) loc (r.toList ++ rest)) : hvV p l e R s m args below meth c nL B cells slots Q (zc_I D B (cw ar b τ w0) n H0) pc loc stk :=
  zc_callV As rest C K hw hc hM ck hR hf hs hW d (fun r' w' n' h => by obtain ⟨h1, ⟨X, h2⟩, h3⟩ := h; subst h1; subst h2; subst h3; exact k X)
theorem zs_iret (C : CallFix p m c cc nL s args hk_tb own) (hr : meth.sig.returnType = some .int) (hlk : meth.locks = false) {x v : Int} (hx : x = v) (hs : ∃ X, τ = F X) (d : decode cc pc = .ok (.ireturn, 1)) : hvV p l e R s m args below meth c nL B cells slots (MQ below (zc_Q D B (fun r' w' n' => r' = some (.int (iz v)) ∧ (∃ X, w' = cw ar b (F X) w0) ∧ n' = n)) args s cells slots B) (zc_I D B (cw ar b τ w0) n s.heap) pc loc [.int (iz x)] := by
  obtain ⟨X, hX⟩ := hs
  subst hx; rw [hX]; exact zc_iret C hr hlk ⟨rfl, ⟨X, rfl⟩, rfl⟩ d
theorem zs_vret (C : CallFix p m c cc nL s args hk_tb own) (hr : meth.sig.returnType = none) (hlk : meth.locks = false) (hs : ∃ X, τ = F X) (d : decode cc pc = .ok (.return_, 1)) : hvV p l e R s m args below meth c nL B cells slots (MQ below (zc_Q D B (fun r' w' n' => r' = none ∧ (∃ X, w' = cw ar b (F X) w0) ∧ n' = n)) args s cells slots B) (zc_I D B (cw ar b τ w0) n s.heap) pc loc [] := by
  obtain ⟨X, hX⟩ := hs
  rw [hX]; exact zc_vret C hr hlk ⟨rfl, ⟨X, rfl⟩, rfl⟩ d
theorem zt_cw {τ2 : Nat → Nat → Int} (h : cw ar b τ w0 = cw ar b τ2 w0) (k : hvV p l e R s m args below meth c nL B cells slots Q (zc_I D B (cw ar b τ2 w0) n H0) pc loc stk) : hvV p l e R s m args below meth c nL B cells slots Q (zc_I D B (cw ar b τ w0) n H0) pc loc stk := by rw [h]; exact k
end ZS
def nm9 (t : Nat → Int) : Nat → Int := fun i => (iz (t i)).toInt
theorem nm9_in (t : Nat → Int) (i : Nat) : inI (nm9 t i) := inI_toInt _
theorem cw_nm {ar : Nat → ClassId} {b : Nat} {w0 : zcW} (τ : Nat → Nat → Int) (j : Nat) (h : ∀ t, gcell ar b (nm9 t) j = gcell ar b t j) : cw ar b τ w0 = cw ar b (sA τ j (nm9 (τ j))) w0 := by
  funext a
  unfold cw
  split
  · rfl
  · by_cases e : a - b = j
    · rw [e, sA_at, h]
    · rw [sA_ne _ _ e]
def lyE (A : Nat → Int) (pl : Int) (E : Nat → Int) : Nat → (Nat → Int)
  | 0 => E
  | s + 1 => ua (lyE A pl E s) s (sd A s (pl / 48) (pl % 48))
def lyH (A E O : Nat → Int) (pl : Int) (S0 K0 P0 : Nat → Int) : Nat → (Nat → Int) × (Nat → Int) × (Nat → Int)
  | 0 => (S0, K0, P0)
  | h + 1 => if (48 * A (280 + 8 * h + 1) + A (280 + 8 * h + 2) ≤ pl ∧ pl < 48 * A (280 + 8 * h + 1) + A (280 + 8 * h + 2) + A (280 + 8 * h + 3)) ∧ (A 9 = -1 ∨ A (280 + 8 * h + 7) ≤ A 9) then
      (ua (lyH A E O pl S0 K0 P0 h).1 h (wqN A (lyH A E O pl S0 K0 P0 h).2.1 O (lyH A E O pl S0 K0 P0 h).2.2 (tz9 A E h (A 2).toNat)),
       if wqN A (lyH A E O pl S0 K0 P0 h).2.1 O (lyH A E O pl S0 K0 P0 h).2.2 (tz9 A E h (A 2).toNat) = -1 then (lyH A E O pl S0 K0 P0 h).2.1 else tc9 (lyH A E O pl S0 K0 P0 h).2.1 (wqN A (lyH A E O pl S0 K0 P0 h).2.1 O (lyH A E O pl S0 K0 P0 h).2.2 (tz9 A E h (A 2).toNat)) 12,
       (wqL A (lyH A E O pl S0 K0 P0 h).2.1 O (lyH A E O pl S0 K0 P0 h).2.2 (tz9 A E h (A 2).toNat) (2 ^ (A 0).toNat - tz9 A E h (A 2).toNat)).1)
    else lyH A E O pl S0 K0 P0 h
def lyS (A : Nat → Int) (pl : Int) (S E K O P : Nat → Int) : Nat → Int := if 0 ≤ pl ∧ pl ≤ 9599 then (lyH A (lyE A pl (nm9 E) (A 2).toNat) (ow9 A O (A 1).toNat) pl (mz S 24) (zt K 12) P (A 4).toNat).1 else mz S 24
theorem wqL_r {A K O : Nat → Int} (hwi : wi A) (h12 : 0 ≤ A 1 ∧ A 1 ≤ 12) (hO : ∀ i : Nat, (i : Int) < A 1 → 0 ≤ O i ∧ O i < A 1) (P0 : Nat → Int) (nd : Nat) : ∀ m : Nat, 0 ≤ (wqL A K O P0 nd m).2 ∧ (wqL A K O P0 nd m).2 ≤ 1000000000
  | 0 => by show 0 ≤ (1000000000 : Int) ∧ (1000000000 : Int) ≤ 1000000000; omega
  | m + 1 => by
    have a := wqL_r (K := K) hwi h12 hO P0 nd m
    have r := wqR_r (K := K) hwi h12 hO (nd + m) (wqL A K O P0 nd m).2 (wqL A K O P0 nd m).1
    unfold wqL
    split
    · exact a
    · split
      · show 0 ≤ (if _ then _ else _ : Int) ∧ (if _ then _ else _ : Int) ≤ 1000000000
        split <;> omega
      · exact a
theorem wqN_r {A K O : Nat → Int} (hwi : wi A) (h12 : 0 ≤ A 1 ∧ A 1 ≤ 12) (hO : ∀ i : Nat, (i : Int) < A 1 → 0 ≤ O i ∧ O i < A 1) (P0 : Nat → Int) (nd : Nat) : -1 ≤ wqN A K O P0 nd ∧ wqN A K O P0 nd ≤ 4095 := by
  have a := wqL_r (K := K) hwi h12 hO P0 nd (2 ^ (A 0).toNat - nd)
  unfold wqN
  split <;> omega
theorem is9_r {A : Nat → Int} {w : Nat} : ∀ (k : Nat) (O : Nat → Int), k ≤ w → (∀ i : Nat, i < k → 0 ≤ O i ∧ O i < (w : Int)) → (∀ i : Nat, k < i → i ≤ w → 0 ≤ O i ∧ O i < (w : Int)) → (is9 A w k O).2 ≤ w ∧ ∀ i : Nat, i ≤ w → i ≠ (is9 A w k O).2 → 0 ≤ (is9 A w k O).1 i ∧ (is9 A w k O).1 i < (w : Int)
  | 0, O, h, h1, h2 => ⟨Nat.zero_le _, fun i hi he => h2 i (Nat.pos_of_ne_zero he) hi⟩
  | k + 1, O, h, h1, h2 => by
    unfold is9
    split
    · refine is9_r k _ (by omega) (fun i hi => ?_) (fun i hi hw => ?_)
      · rw [ua_ne _ _ (by omega)]; exact h1 i (by omega)
      · unfold ua
        split
        · exact h1 k (by omega)
        · exact h2 i (by omega) hw
    · refine ⟨h, fun i hi he => ?_⟩
      have he2 : i ≠ k + 1 := he
      rcases Nat.lt_or_ge i (k + 1) with q | q
      · exact h1 i q
      · exact h2 i (by omega) hi
theorem ow9_g {A O : Nat → Int} : ∀ w : Nat, ∀ i : Nat, i < w → 0 ≤ ow9 A O w i ∧ ow9 A O w i < (w : Int)
  | 0, i, h => absurd h (Nat.not_lt_zero _)
  | w + 1, i, h => by
    have a := is9_r (A := A) (w := w) w (ow9 A O w) (Nat.le_refl _) (fun i hi => ow9_g w i hi) (fun i hi hw => by omega)
    unfold ow9 ua
    split
    · omega
    · next g => have := a.2 i (by omega) g; omega
theorem tz9_lt {A E : Nat → Int} (hh : hi A) (hs : si A) {h : Nat} (h4 : (h : Int) < A 4) : ∀ s : Nat, (s : Int) ≤ A 2 → tz9 A E h s < 2 ^ (A 0).toNat
  | 0, _ => by
    have a := hh h h4
    exact Nat.pow_lt_pow_right (by decide) (by omega)
  | s + 1, q => by
    have a := tz9_lt (E := E) hh hs h4 s (by omega)
    have z := hs s (by omega)
    unfold tz9
    refine Nat.or_lt_two_pow a ?_
    split
    · exact Nat.pow_lt_pow_right (by decide) (by omega)
    · exact Nat.pow_pos (by decide)
theorem tc9_v (K : Nat → Int) (s : Int) : ∀ w i : Nat, tc9 K s w i = K i + (if i < w then s / 2 ^ i % 2 ^ 1 else 0)
  | 0, i => by rw [if_neg (Nat.not_lt_zero _), Int.add_zero]; rfl
  | w + 1, i => by
    have a := tc9_v K s w i
    unfold tc9 ua
    by_cases e : i = w
    · rw [if_pos e, ← e, if_pos (by omega), tc9_v K s i i, if_neg (Nat.lt_irrefl _), Int.add_zero]
    · rw [if_neg e, a]
      by_cases g : i < w
      · rw [if_pos g, if_pos (by omega)]
      · rw [if_neg g, if_neg (by omega)]
theorem tc9_r {K : Nat → Int} {s : Int} {z : Int} (h : ∀ i : Nat, i < 12 → 0 ≤ K i ∧ K i ≤ z) (w : Nat) : ∀ i : Nat, i < 12 → 0 ≤ tc9 K s w i ∧ tc9 K s w i ≤ z + 1 := by
  intro i g
  have := h i g
  rw [tc9_v]
  split <;> omega
section LY
variable {A E O S0 K0 P0 S K P : Nat → Int} {pl : Int} {h : Nat}
theorem lyH_y {x : Int} (e : lyH A E O pl S0 K0 P0 h = (S, K, P)) (hx : x = wqN A K O P (tz9 A E h (A 2).toNat)) (c1 : 48 * A (280 + 8 * h + 1) + A (280 + 8 * h + 2) ≤ pl ∧ pl < 48 * A (280 + 8 * h + 1) + A (280 + 8 * h + 2) + A (280 + 8 * h + 3)) (c2 : A 9 = -1 ∨ A (280 + 8 * h + 7) ≤ A 9) : lyH A E O pl S0 K0 P0 (h + 1) = (ua S h x, if x = -1 then K else tc9 K x 12, (wqL A K O P (tz9 A E h (A 2).toNat) (2 ^ (A 0).toNat - tz9 A E h (A 2).toNat)).1) := by
  unfold lyH
  rw [e, if_pos ⟨c1, c2⟩, hx]
theorem lyH_n (e : lyH A E O pl S0 K0 P0 h = (S, K, P)) (c : ¬ ((48 * A (280 + 8 * h + 1) + A (280 + 8 * h + 2) ≤ pl ∧ pl < 48 * A (280 + 8 * h + 1) + A (280 + 8 * h + 2) + A (280 + 8 * h + 3)) ∧ (A 9 = -1 ∨ A (280 + 8 * h + 7) ≤ A 9))) : lyH A E O pl S0 K0 P0 (h + 1) = (S, K, P) := by
  unfold lyH
  rw [e, if_neg c]
end LY

theorem dX10_lay_0 : decode cX10_lay 0 = .ok (.iconst 0, 1) := by decide +kernel
theorem dX10_lay_1 : decode cX10_lay 1 = .ok (.istore_n 3, 1) := by decide +kernel
theorem dX10_lay_2 : decode cX10_lay 2 = .ok (.iload_n 3, 1) := by decide +kernel
theorem dX10_lay_3 : decode cX10_lay 3 = .ok (.bipush 24, 2) := by decide +kernel
theorem dX10_lay_5 : decode cX10_lay 5 = .ok (.if_icmp .ge 16, 3) := by decide +kernel
theorem dX10_lay_8 : decode cX10_lay 8 = .ok (.aload_n 0, 1) := by decide +kernel
theorem dX10_lay_9 : decode cX10_lay 9 = .ok (.getfield 9, 3) := by decide +kernel
theorem dX10_lay_12 : decode cX10_lay 12 = .ok (.iload_n 3, 1) := by decide +kernel
theorem dX10_lay_13 : decode cX10_lay 13 = .ok (.iconst (-1), 1) := by decide +kernel
theorem dX10_lay_14 : decode cX10_lay 14 = .ok (.iastore, 1) := by decide +kernel
theorem dX10_lay_15 : decode cX10_lay 15 = .ok (.iinc 3 1, 3) := by decide +kernel
theorem dX10_lay_18 : decode cX10_lay 18 = .ok (.goto (-16), 3) := by decide +kernel
theorem dX10_lay_21 : decode cX10_lay 21 = .ok (.iload_n 2, 1) := by decide +kernel
theorem dX10_lay_22 : decode cX10_lay 22 = .ok (.invokestatic 27, 3) := by decide +kernel
theorem dX10_lay_25 : decode cX10_lay 25 = .ok (.ifCond .ne 4, 3) := by decide +kernel
theorem dX10_lay_28 : decode cX10_lay 28 = .ok (.return_, 1) := by decide +kernel
theorem dX10_lay_29 : decode cX10_lay 29 = .ok (.iconst 0, 1) := by decide +kernel
theorem dX10_lay_30 : decode cX10_lay 30 = .ok (.istore_n 3, 1) := by decide +kernel
theorem dX10_lay_31 : decode cX10_lay 31 = .ok (.iload_n 3, 1) := by decide +kernel
theorem dX10_lay_32 : decode cX10_lay 32 = .ok (.bipush 12, 2) := by decide +kernel
theorem dX10_lay_34 : decode cX10_lay 34 = .ok (.if_icmp .ge 16, 3) := by decide +kernel
theorem dX10_lay_37 : decode cX10_lay 37 = .ok (.aload_n 0, 1) := by decide +kernel
theorem dX10_lay_38 : decode cX10_lay 38 = .ok (.getfield 18, 3) := by decide +kernel
theorem dX10_lay_41 : decode cX10_lay 41 = .ok (.iload_n 3, 1) := by decide +kernel
theorem dX10_lay_42 : decode cX10_lay 42 = .ok (.iconst 0, 1) := by decide +kernel
theorem dX10_lay_43 : decode cX10_lay 43 = .ok (.iastore, 1) := by decide +kernel
theorem dX10_lay_44 : decode cX10_lay 44 = .ok (.iinc 3 1, 3) := by decide +kernel
theorem dX10_lay_47 : decode cX10_lay 47 = .ok (.goto (-16), 3) := by decide +kernel
theorem dX10_lay_50 : decode cX10_lay 50 = .ok (.aload_n 0, 1) := by decide +kernel
theorem dX10_lay_51 : decode cX10_lay 51 = .ok (.aload_n 1, 1) := by decide +kernel
theorem dX10_lay_52 : decode cX10_lay 52 = .ok (.invokevirtual 31, 3) := by decide +kernel
theorem dX10_lay_55 : decode cX10_lay 55 = .ok (.iconst 0, 1) := by decide +kernel
theorem dX10_lay_56 : decode cX10_lay 56 = .ok (.istore_n 3, 1) := by decide +kernel
theorem dX10_lay_57 : decode cX10_lay 57 = .ok (.iload_n 3, 1) := by decide +kernel
theorem dX10_lay_58 : decode cX10_lay 58 = .ok (.aload_n 1, 1) := by decide +kernel
theorem dX10_lay_59 : decode cX10_lay 59 = .ok (.getfield 35, 3) := by decide +kernel
theorem dX10_lay_62 : decode cX10_lay 62 = .ok (.invokevirtual 41, 3) := by decide +kernel
theorem dX10_lay_65 : decode cX10_lay 65 = .ok (.if_icmp .ge 21, 3) := by decide +kernel
theorem dX10_lay_68 : decode cX10_lay 68 = .ok (.aload_n 0, 1) := by decide +kernel
theorem dX10_lay_69 : decode cX10_lay 69 = .ok (.getfield 15, 3) := by decide +kernel
theorem dX10_lay_72 : decode cX10_lay 72 = .ok (.iload_n 3, 1) := by decide +kernel
theorem dX10_lay_73 : decode cX10_lay 73 = .ok (.aload_n 1, 1) := by decide +kernel
theorem dX10_lay_74 : decode cX10_lay 74 = .ok (.iload_n 3, 1) := by decide +kernel
theorem dX10_lay_75 : decode cX10_lay 75 = .ok (.iload_n 2, 1) := by decide +kernel
theorem dX10_lay_76 : decode cX10_lay 76 = .ok (.invokevirtual 47, 3) := by decide +kernel
theorem dX10_lay_79 : decode cX10_lay 79 = .ok (.iastore, 1) := by decide +kernel
theorem dX10_lay_80 : decode cX10_lay 80 = .ok (.iinc 3 1, 3) := by decide +kernel
theorem dX10_lay_83 : decode cX10_lay 83 = .ok (.goto (-26), 3) := by decide +kernel
theorem dX10_lay_86 : decode cX10_lay 86 = .ok (.iconst 0, 1) := by decide +kernel
theorem dX10_lay_87 : decode cX10_lay 87 = .ok (.istore_n 3, 1) := by decide +kernel
theorem dX10_lay_88 : decode cX10_lay 88 = .ok (.iload_n 3, 1) := by decide +kernel
theorem dX10_lay_89 : decode cX10_lay 89 = .ok (.aload_n 1, 1) := by decide +kernel
theorem dX10_lay_90 : decode cX10_lay 90 = .ok (.getfield 51, 3) := by decide +kernel
theorem dX10_lay_93 : decode cX10_lay 93 = .ok (.invokevirtual 41, 3) := by decide +kernel
theorem dX10_lay_96 : decode cX10_lay 96 = .ok (.if_icmp .ge 70, 3) := by decide +kernel
theorem dX10_lay_99 : decode cX10_lay 99 = .ok (.aload_n 1, 1) := by decide +kernel
theorem dX10_lay_100 : decode cX10_lay 100 = .ok (.getfield 51, 3) := by decide +kernel
theorem dX10_lay_103 : decode cX10_lay 103 = .ok (.iload_n 3, 1) := by decide +kernel
theorem dX10_lay_104 : decode cX10_lay 104 = .ok (.invokevirtual 54, 3) := by decide +kernel
theorem dX10_lay_107 : decode cX10_lay 107 = .ok (.checkcast 58, 3) := by decide +kernel
theorem dX10_lay_110 : decode cX10_lay 110 = .ok (.astore 4, 2) := by decide +kernel
theorem dX10_lay_112 : decode cX10_lay 112 = .ok (.aload 4, 2) := by decide +kernel
theorem dX10_lay_114 : decode cX10_lay 114 = .ok (.iload_n 2, 1) := by decide +kernel
theorem dX10_lay_115 : decode cX10_lay 115 = .ok (.invokevirtual 60, 3) := by decide +kernel
theorem dX10_lay_118 : decode cX10_lay 118 = .ok (.ifCond .eq 42, 3) := by decide +kernel
theorem dX10_lay_121 : decode cX10_lay 121 = .ok (.aload_n 1, 1) := by decide +kernel
theorem dX10_lay_122 : decode cX10_lay 122 = .ok (.aload 4, 2) := by decide +kernel
theorem dX10_lay_124 : decode cX10_lay 124 = .ok (.getfield 63, 3) := by decide +kernel
theorem dX10_lay_127 : decode cX10_lay 127 = .ok (.invokevirtual 67, 3) := by decide +kernel
theorem dX10_lay_130 : decode cX10_lay 130 = .ok (.ifCond .eq 30, 3) := by decide +kernel
theorem dX10_lay_133 : decode cX10_lay 133 = .ok (.aload_n 0, 1) := by decide +kernel
theorem dX10_lay_134 : decode cX10_lay 134 = .ok (.getfield 9, 3) := by decide +kernel
theorem dX10_lay_137 : decode cX10_lay 137 = .ok (.iload_n 3, 1) := by decide +kernel
theorem dX10_lay_138 : decode cX10_lay 138 = .ok (.aload_n 0, 1) := by decide +kernel
theorem dX10_lay_139 : decode cX10_lay 139 = .ok (.aload_n 1, 1) := by decide +kernel
theorem dX10_lay_140 : decode cX10_lay 140 = .ok (.aload_n 0, 1) := by decide +kernel
theorem dX10_lay_141 : decode cX10_lay 141 = .ok (.aload_n 1, 1) := by decide +kernel
theorem dX10_lay_142 : decode cX10_lay 142 = .ok (.iload_n 3, 1) := by decide +kernel
theorem dX10_lay_143 : decode cX10_lay 143 = .ok (.invokevirtual 70, 3) := by decide +kernel
theorem dX10_lay_146 : decode cX10_lay 146 = .ok (.invokevirtual 74, 3) := by decide +kernel
theorem dX10_lay_149 : decode cX10_lay 149 = .ok (.iastore, 1) := by decide +kernel
theorem dX10_lay_150 : decode cX10_lay 150 = .ok (.aload_n 0, 1) := by decide +kernel
theorem dX10_lay_151 : decode cX10_lay 151 = .ok (.aload_n 0, 1) := by decide +kernel
theorem dX10_lay_152 : decode cX10_lay 152 = .ok (.getfield 9, 3) := by decide +kernel
theorem dX10_lay_155 : decode cX10_lay 155 = .ok (.iload_n 3, 1) := by decide +kernel
theorem dX10_lay_156 : decode cX10_lay 156 = .ok (.iaload, 1) := by decide +kernel
theorem dX10_lay_157 : decode cX10_lay 157 = .ok (.invokevirtual 77, 3) := by decide +kernel
theorem dX10_lay_160 : decode cX10_lay 160 = .ok (.iinc 3 1, 3) := by decide +kernel
theorem dX10_lay_163 : decode cX10_lay 163 = .ok (.goto (-75), 3) := by decide +kernel
theorem dX10_lay_166 : decode cX10_lay 166 = .ok (.return_, 1) := by decide +kernel
theorem ck_X10_27 : zcN RX10 "HookUps" yX11_isPlace cX11_isPlace 1 (some .boolean) 27 1 := ⟨hk_tq3 9 (by decide +kernel) (by decide +kernel), by decide +kernel, hk_tq1 1 (by decide +kernel) (by decide +kernel), ⟨by decide, by decide, by decide +kernel⟩, hk_tq3 8 (by decide +kernel) (by decide +kernel)⟩
theorem ck_X10_31 : zcV RX10 RX10 yX10_orderWires cX10_orderWires 4 none 31 1 := ⟨hk_tq4 151 (by decide +kernel) (by decide +kernel), hk_tq4 148 (by decide +kernel) (by decide +kernel), hk_tq1 8 (by decide +kernel) (by decide +kernel), ⟨by decide, by decide, by decide +kernel⟩, hk_tq4 150 (by decide +kernel) (by decide +kernel), hk_s 16 (by decide +kernel) (by decide +kernel)⟩
theorem ck_X10_60 : zcV RX10 RX3 yX3_isOnAt cX3_isOnAt 2 (some .boolean) 60 1 := ⟨hk_tq4 128 (by decide +kernel) (by decide +kernel), hk_tq4 157 (by decide +kernel) (by decide +kernel), hk_tq1 21 (by decide +kernel) (by decide +kernel), ⟨by decide, by decide, by decide +kernel⟩, hk_tq4 126 (by decide +kernel) (by decide +kernel), hk_tq4 127 (by decide +kernel) (by decide +kernel)⟩
theorem fl_X10_63 : Cond.fieldLink RX10 63 "HookUps$Hour" (TX3 6).2.1 (TX3 6).2.2.1 ∈ hk_tb := hk_tq3 112 (by decide +kernel) (by decide +kernel)
theorem ck_X10_67 : zcV RX10 RX8 yX8_isSeen cX8_isSeen 2 (some .boolean) 67 1 := ⟨hk_tq3 79 (by decide +kernel) (by decide +kernel), hk_tq4 158 (by decide +kernel) (by decide +kernel), hk_tq1 2 (by decide +kernel) (by decide +kernel), ⟨by decide, by decide, by decide +kernel⟩, hk_tq3 77 (by decide +kernel) (by decide +kernel), hk_tq3 78 (by decide +kernel) (by decide +kernel)⟩
theorem ck_X10_70 : zcV RX10 RX10 yX10_townsOf cX10_townsOf 5 (some .int) 70 2 := ⟨hk_tq4 162 (by decide +kernel) (by decide +kernel), hk_tq4 159 (by decide +kernel) (by decide +kernel), hk_tq1 8 (by decide +kernel) (by decide +kernel), ⟨by decide, by decide, by decide +kernel⟩, hk_tq4 161 (by decide +kernel) (by decide +kernel), hk_s 17 (by decide +kernel) (by decide +kernel)⟩
theorem ck_X10_74 : zcV RX10 RX10 yX10_leastString cX10_leastString 5 (some .int) 74 2 := ⟨hk_tq4 167 (by decide +kernel) (by decide +kernel), hk_tq4 164 (by decide +kernel) (by decide +kernel), hk_tq1 8 (by decide +kernel) (by decide +kernel), ⟨by decide, by decide, by decide +kernel⟩, hk_tq4 166 (by decide +kernel) (by decide +kernel), hk_s 18 (by decide +kernel) (by decide +kernel)⟩
theorem ck_X10_77 : zcV RX10 RX10 yX10_takeCircuits cX10_takeCircuits 3 none 77 1 := ⟨hk_tq4 181 (by decide +kernel) (by decide +kernel), hk_tq4 178 (by decide +kernel) (by decide +kernel), hk_tq1 8 (by decide +kernel) (by decide +kernel), ⟨by decide, by decide, by decide +kernel⟩, hk_tq4 180 (by decide +kernel) (by decide +kernel), hk_s 21 (by decide +kernel) (by decide +kernel)⟩
theorem ck_X10_47 : zcV RX10 RX8 yX8_sentAt cX8_sentAt 7 (some .int) 47 2 := ⟨hk_tq4 109 (by decide +kernel) (by decide +kernel), hk_tq4 155 (by decide +kernel) (by decide +kernel), hk_tq1 2 (by decide +kernel) (by decide +kernel), ⟨by decide, by decide, by decide +kernel⟩, hk_tq4 107 (by decide +kernel) (by decide +kernel), hk_tq4 108 (by decide +kernel) (by decide +kernel)⟩
set_option maxRecDepth 100000 in
set_option maxHeartbeats 4000000 in
theorem k_X10_lay_wa (l : Launch) {D : va_G} {ar : Nat → ClassId} {B : Nat → Prop} {b n : Nat} {w0 : zcW} (A : Nat → Int) (τ : Nat → Nat → Int) (pl : Int) (hA : ∀ i, inI (A i)) (hR : Rel9 ar b w0 A τ) (hs : si A) (hh : hi A) (hl : li A) (hlj : lj9 A) (hc : cn A) (hm : mI A) (hb : bI A) (hwi : wi A) (r_pl : inI pl) : zs_M l D ar B b w0 n yX10_lay cX10_lay 5 none 6 152 [.ref (b + 24), .ref (b + 1), .int (iz pl)] τ none (fun (X : Nat → Nat → Int) => sA (sA (sA (sA (sA (sA τ 18 (X 18)) 25 (lyS A pl (τ 25) (τ 26) (τ 27) (τ 28) (τ 29))) 26 (X 26)) 27 (X 27)) 28 (X 28)) 29 (X 29)) := by
  refine zc_start (own := RX10) (by decide +kernel) rfl (Nat.le_of_ble_eq_true rfl) ?_
  intro p e s m args below meth c C K hr hlk hnam
  have n3 := hR.l3.1
  have n7 := hR.l7.1
  refine hv_iconst C dX10_lay_0 ?_
  refine hv_istore_n C 3 [(3, .int (iz 0)), (0, .ref (b + 24)), (1, .ref (b + 1)), (2, .int (iz pl))] dX10_lay_1 rfl (by decide) rfl ?_
  have L2 : ∀ (f : Nat) (k : Nat) (S1 : Nat → Int), 24 - k < f → (k ≤ 24) → (S1 = mz (τ 25) k) → hvV p l e { frames := 6, cells := 0, slots := 0, locals := 152 } s m args below meth c 5 B 0 0 (MQ below (zc_Q D B (fun r' w' n' => r' = none ∧ (∃ X : Nat → Nat → Int, w' = cw ar b (sA (sA (sA (sA (sA (sA τ 18 (X 18)) 25 (lyS A pl (τ 25) (τ 26) (τ 27) (τ 28) (τ 29))) 26 (X 26)) 27 (X 27)) 28 (X 28)) 29 (X 29)) w0) ∧ n' = n)) args s 0 0 B) (zc_I D B (cw ar b (sA τ 25 S1) w0) n s.heap) 2 [(0, .ref (b + 24)), (1, .ref (b + 1)), (2, .int (iz pl)), (3, .int (iz ((k : Nat) : Int)))] [] := by
    intro f
    induction f with
    | zero => intro _ _ hm; exact absurd hm (Nat.not_lt_zero _)
    | succ f ih2 =>
      intro k S1 hm2 hk hS1
      refine hv_iload_n C 3 3 dX10_lay_2 rfl rfl ?_
      refine hv_bipush C dX10_lay_3 (by decide) ?_
      refine hv_icmp_ge C 21 dX10_lay_5 (by decide) (by omega) (by omega) (fun h5 => ?_) (fun h5 => ?_)
      · skip
        refine hv_iload_n C 2 2 dX10_lay_21 rfl rfl ?_
        refine zt_callN [.int (iz pl)] [] C K (k_X11_isPlace l  (sA τ 25 S1) pl (by omega)) ck_X10_27 (by decide) ⟨Nat.zero_le _, Nat.zero_le _⟩ rfl (Nat.le_of_ble_eq_true rfl) dX10_lay_22 ?_
        refine hv_as (xb (decide (0 ≤ pl ∧ pl ≤ 9599))) rfl ?_
        refine hv_dif_ne C 29 dX10_lay_25 (by decide)  (fun h25 => ?_) (fun h25 => ?_)
        · skip
          refine hv_iconst C dX10_lay_29 ?_
          refine hv_istore_n C 3 [(3, .int (iz 0)), (0, .ref (b + 24)), (1, .ref (b + 1)), (2, .int (iz pl))] dX10_lay_30 rfl (by decide) rfl ?_
          have L31 : ∀ (f : Nat) (v : Nat) (K1 : Nat → Int), 12 - v < f → (v ≤ 12) → (K1 = zt (τ 27) v) → hvV p l e { frames := 6, cells := 0, slots := 0, locals := 152 } s m args below meth c 5 B 0 0 (MQ below (zc_Q D B (fun r' w' n' => r' = none ∧ (∃ X : Nat → Nat → Int, w' = cw ar b (sA (sA (sA (sA (sA (sA τ 18 (X 18)) 25 (lyS A pl (τ 25) (τ 26) (τ 27) (τ 28) (τ 29))) 26 (X 26)) 27 (X 27)) 28 (X 28)) 29 (X 29)) w0) ∧ n' = n)) args s 0 0 B) (zc_I D B (cw ar b (sA (sA τ 25 S1) 27 K1) w0) n s.heap) 31 [(0, .ref (b + 24)), (1, .ref (b + 1)), (2, .int (iz pl)), (3, .int (iz ((v : Nat) : Int)))] [] := by
            intro f
            induction f with
            | zero => intro _ _ hm; exact absurd hm (Nat.not_lt_zero _)
            | succ f ih31 =>
              intro v K1 hm31 hv hK1
              refine hv_iload_n C 3 3 dX10_lay_31 rfl rfl ?_
              refine hv_bipush C dX10_lay_32 (by decide) ?_
              refine hv_icmp_ge C 50 dX10_lay_34 (by decide) (by omega) (by omega) (fun h34 => ?_) (fun h34 => ?_)
              · skip
                refine hv_aload_n C 0 0 dX10_lay_50 rfl rfl ?_
                refine hv_aload_n C 1 1 dX10_lay_51 rfl rfl ?_
                refine zt_callV [.ref (b + 1)] [] C K (cw_at 24 rfl) rfl (k_X10_orderWires_wa l A (sA (sA τ 25 S1) 27 K1)  hA (by repeat (first | exact hR | refine rl_sA (by decide) ?_)) hc hwi) ck_X10_31 (by decide) ⟨Nat.zero_le _, Nat.zero_le _⟩ rfl (Nat.le_of_ble_eq_true rfl) dX10_lay_52 ?_
                refine zt_st (τ2 := sA (sA (sA τ 25 S1) 27 K1) 28 (ow9 A (τ 28) (A 1).toNat)) (by first | rfl | (funext j9; by_cases hj25 : j9 = 25; (subst hj25; first | rfl | exact ua_ua | (funext i9; simp only [sA, ua]; (repeat' split) <;> first | rfl | (exfalso; omega) | (subst_vars; rfl))); by_cases hj27 : j9 = 27; (subst hj27; first | rfl | exact ua_ua | (funext i9; simp only [sA, ua]; (repeat' split) <;> first | rfl | (exfalso; omega) | (subst_vars; rfl))); by_cases hj28 : j9 = 28; (subst hj28; first | rfl | exact ua_ua | (funext i9; simp only [sA, ua]; (repeat' split) <;> first | rfl | (exfalso; omega) | (subst_vars; rfl))); simp only [sA, if_neg hj25, if_neg hj27, if_neg hj28])) ?_
                refine zt_cw (τ2 := sA (sA (sA (sA τ 25 S1) 26 (nm9 (τ 26))) 27 K1) 28 (ow9 A (τ 28) (A 1).toNat)) ((cw_nm (sA (sA (sA τ 25 S1) 27 K1) 28 (ow9 A (τ 28) (A 1).toNat)) 26 (fun t => by simp [gcell, nm9, iz_of])).trans (congrArg (fun x9 => cw ar b x9 w0) (by rw [sA_comm (j := 28) (k := 26) (by decide), sA_comm (j := 27) (k := 26) (by decide)]; first | done | rfl))) ?_
                have hOO : ∀ i : Nat, (i : Int) < A 1 → 0 ≤ (ow9 A (τ 28) (A 1).toNat) i ∧ (ow9 A (τ 28) (A 1).toNat) i < A 1 := fun i z => by have z2 := ow9_g (A := A) (O := τ 28) (A 1).toNat i (by omega); omega
                refine hv_iconst C dX10_lay_55 ?_
                refine hv_istore_n C 3 [(3, .int (iz 0)), (0, .ref (b + 24)), (1, .ref (b + 1)), (2, .int (iz pl))] dX10_lay_56 rfl (by decide) rfl ?_
                have L57 : ∀ (f : Nat) (s9 : Nat) (E9 : Nat → Int) (X : Nat → Int), (A 2).toNat - s9 < f → ((s9 : Int) ≤ A 2) → (E9 = lyE A pl (nm9 (τ 26)) s9) → (∀ i, inI (E9 i)) → hvV p l e { frames := 6, cells := 0, slots := 0, locals := 152 } s m args below meth c 5 B 0 0 (MQ below (zc_Q D B (fun r' w' n' => r' = none ∧ (∃ X : Nat → Nat → Int, w' = cw ar b (sA (sA (sA (sA (sA (sA τ 18 (X 18)) 25 (lyS A pl (τ 25) (τ 26) (τ 27) (τ 28) (τ 29))) 26 (X 26)) 27 (X 27)) 28 (X 28)) 29 (X 29)) w0) ∧ n' = n)) args s 0 0 B) (zc_I D B (cw ar b (sA (sA (sA (sA (sA τ 18 X) 25 S1) 26 E9) 27 K1) 28 (ow9 A (τ 28) (A 1).toNat)) w0) n s.heap) 57 [(0, .ref (b + 24)), (1, .ref (b + 1)), (2, .int (iz pl)), (3, .int (iz ((s9 : Nat) : Int)))] [] := by
                  intro f
                  induction f with
                  | zero => intro _ _ _ hm; exact absurd hm (Nat.not_lt_zero _)
                  | succ f ih57 =>
                    intro s9 E9 X hm57 hs9 hE9 hEr
                    refine hv_iload_n C 3 3 dX10_lay_57 rfl rfl ?_
                    refine hv_aload_n C 1 1 dX10_lay_58 rfl rfl ?_
                    refine zc_get C K (v := .ref (b + 3)) 2 rfl hu_9 (by decide) (cw_at 1 rfl) rfl fl_X10_35 rfl dX10_lay_59 ?_
                    refine zt_callV [] [.int (iz ((s9 : Nat) : Int))] C K (cw_at 3 rfl) rfl (k_Jx4a65c_size_8abf5 l 3 (sA (sA (sA (sA (sA τ 18 X) 25 S1) 26 E9) 27 K1) 28 (ow9 A (τ 28) (A 1).toNat))  rfl) ck_X10_41 (by decide) ⟨Nat.zero_le _, Nat.zero_le _⟩ rfl (Nat.le_of_ble_eq_true rfl) dX10_lay_62 ?_
                    refine hv_as ((τ 3 2)) rfl ?_
                    refine hv_nm (fun x1 ex1 => ?_)
                    have rx1 : inI x1 := by rw [ex1]; exact (by have z := hA 2; omega)
                    refine hv_icmp_ge C 86 dX10_lay_65 (by decide) (by omega) (by omega) (fun h65 => ?_) (fun h65 => ?_)
                    · skip
                      have hE9e := hE9
                      rw [show s9 = (A 2).toNat by omega] at hE9e
                      have hK1e := hK1
                      rw [show v = 12 by omega] at hK1e
                      have hS1e := hS1
                      rw [show k = 24 by omega] at hS1e
                      refine hv_iconst C dX10_lay_86 ?_
                      refine hv_istore_n C 3 [(3, .int (iz 0)), (0, .ref (b + 24)), (1, .ref (b + 1)), (2, .int (iz pl))] dX10_lay_87 rfl (by decide) rfl ?_
                      have L88 : ∀ (f : Nat) (h : Nat) (S9 : Nat → Int) (K9 : Nat → Int) (P9 : Nat → Int) (Y : Nat → Int), (A 4).toNat - h < f → ((h : Int) ≤ A 4) → (lyH A E9 (ow9 A (τ 28) (A 1).toNat) pl S1 K1 (τ 29) h = (S9, K9, P9)) → (∀ i : Nat, i < 12 → 0 ≤ K9 i ∧ K9 i ≤ (h : Int)) → hvV p l e { frames := 6, cells := 0, slots := 0, locals := 152 } s m args below meth c 5 B 0 0 (MQ below (zc_Q D B (fun r' w' n' => r' = none ∧ (∃ X : Nat → Nat → Int, w' = cw ar b (sA (sA (sA (sA (sA (sA τ 18 (X 18)) 25 (lyS A pl (τ 25) (τ 26) (τ 27) (τ 28) (τ 29))) 26 (X 26)) 27 (X 27)) 28 (X 28)) 29 (X 29)) w0) ∧ n' = n)) args s 0 0 B) (zc_I D B (cw ar b (sA (sA (sA (sA (sA (sA τ 18 Y) 25 S9) 26 E9) 27 K9) 28 (ow9 A (τ 28) (A 1).toNat)) 29 P9) w0) n s.heap) 88 [(0, .ref (b + 24)), (1, .ref (b + 1)), (2, .int (iz pl)), (3, .int (iz ((h : Nat) : Int)))] [] := by
                        intro f
                        induction f with
                        | zero => intro _ _ _ _ _ hm; exact absurd hm (Nat.not_lt_zero _)
                        | succ f ih88 =>
                          intro h S9 K9 P9 Y hm88 h4 hH hK9
                          refine hv_iload_n C 3 3 dX10_lay_88 rfl rfl ?_
                          refine hv_aload_n C 1 1 dX10_lay_89 rfl rfl ?_
                          refine zc_get C K (v := .ref (b + 7)) 6 rfl hu_9 (by decide) (cw_at 1 rfl) rfl fl_X10_51 rfl dX10_lay_90 ?_
                          refine zt_callV [] [.int (iz ((h : Nat) : Int))] C K (cw_at 7 rfl) rfl (k_Jx4a65c_size_8abf5 l 7 (sA (sA (sA (sA (sA (sA τ 18 Y) 25 S9) 26 E9) 27 K9) 28 (ow9 A (τ 28) (A 1).toNat)) 29 P9)  rfl) ck_X10_41 (by decide) ⟨Nat.zero_le _, Nat.zero_le _⟩ rfl (Nat.le_of_ble_eq_true rfl) dX10_lay_93 ?_
                          refine hv_as ((τ 7 2)) rfl ?_
                          refine hv_nm (fun x2 ex2 => ?_)
                          have rx2 : inI x2 := by rw [ex2]; exact (by have z := hA 4; omega)
                          refine hv_icmp_ge C 166 dX10_lay_96 (by decide) (by omega) (by omega) (fun h96 => ?_) (fun h96 => ?_)
                          · skip
                            have zLS : lyS A pl (τ 25) (τ 26) (τ 27) (τ 28) (τ 29) = S9 := by unfold lyS; rw [if_pos (by omega), ← hE9e, ← hK1e, ← hS1e, show (A 4).toNat = h by omega, hH]
                            exact zs_vret C hr hlk ⟨(sA (sA (sA (sA (sA (sA τ 18 Y) 25 S9) 26 E9) 27 K9) 28 (ow9 A (τ 28) (A 1).toNat)) 29 P9), by rw [zLS]; first | rfl | (funext j9; by_cases hj18 : j9 = 18; (subst hj18; rfl); by_cases hj25 : j9 = 25; (subst hj25; rfl); by_cases hj26 : j9 = 26; (subst hj26; rfl); by_cases hj27 : j9 = 27; (subst hj27; rfl); by_cases hj28 : j9 = 28; (subst hj28; rfl); by_cases hj29 : j9 = 29; (subst hj29; rfl); simp only [sA, if_neg hj18, if_neg hj25, if_neg hj26, if_neg hj27, if_neg hj28, if_neg hj29])⟩ dX10_lay_166
                          · skip
                            refine hv_aload_n C 1 1 dX10_lay_99 rfl rfl ?_
                            refine zc_get C K (v := .ref (b + 7)) 6 rfl hu_9 (by decide) (cw_at 1 rfl) rfl fl_X10_51 rfl dX10_lay_100 ?_
                            refine hv_iload_n C 3 3 dX10_lay_103 rfl rfl ?_
                            obtain ⟨p3, i3, o3⟩ := ((by repeat (first | exact hR | refine rl_sA (by decide) ?_)) : Rel9 ar b w0 A (sA (sA (sA (sA (sA (sA τ 18 Y) 25 S9) 26 E9) 27 K9) 28 (ow9 A (τ 28) (A 1).toNat)) 29 P9)).l7.2 h (by omega)
                            refine zt_callV [.int (iz ((h : Nat) : Int))] [] C K (cw_at 7 rfl) rfl (k_Jx4a65c_get_915e3 l 7 p3 (sA (sA (sA (sA (sA (sA τ 18 Y) 25 S9) 26 E9) 27 K9) 28 (ow9 A (τ 28) (A 1).toNat)) 29 P9) h rfl i3) ck_X10_54 (by decide) ⟨Nat.zero_le _, Nat.zero_le _⟩ rfl (Nat.le_of_ble_eq_true rfl) dX10_lay_104 ?_
                            refine zc_cast C K (cw_ob o3) (hc := rfl) cl_X10_58 dX10_lay_107 ?_
                            refine hv_astore C 4 [(4, .ref p3), (0, .ref (b + 24)), (1, .ref (b + 1)), (2, .int (iz pl)), (3, .int (iz ((h : Nat) : Int)))] dX10_lay_110 (by decide) rfl ?_
                            refine hv_aload C 4 0 dX10_lay_112 rfl ?_
                            refine hv_iload_n C 2 3 dX10_lay_114 rfl rfl ?_
                            refine zt_callV [.int (iz pl)] [] C K (cw_ob o3) rfl (k_X3_isOnAt l A h p3 (sA (sA (sA (sA (sA (sA τ 18 Y) 25 S9) 26 E9) 27 K9) 28 (ow9 A (τ 28) (A 1).toNat)) 29 P9) pl hA o3 hh (by omega) (by omega)) ck_X10_60 (by decide) ⟨Nat.zero_le _, Nat.zero_le _⟩ rfl (Nat.le_of_ble_eq_true rfl) dX10_lay_115 ?_
                            refine hv_as (xb (decide (48 * A (280 + 8 * h + 1) + A (280 + 8 * h + 2) ≤ pl ∧ pl < 48 * A (280 + 8 * h + 1) + A (280 + 8 * h + 2) + A (280 + 8 * h + 3)))) rfl ?_
                            refine hv_dif_eq C 160 dX10_lay_118 (by decide)  (fun h118 => ?_) (fun h118 => ?_)
                            · skip
                              refine hv_iinc C 3 4 [(3, .int (iz (((h : Nat) : Int) + 1))), (4, .ref p3), (0, .ref (b + 24)), (1, .ref (b + 1)), (2, .int (iz pl))] dX10_lay_160 rfl (by decide) rfl ?_
                              refine hv_goto C 88 dX10_lay_163 (by decide) ?_
                              refine hv_loc [2, 3, 4, 0] [(0, .ref (b + 24)), (1, .ref (b + 1)), (2, .int (iz pl)), (3, .int (iz (((h : Nat) : Int) + 1)))] rfl ?_
                              exact ih88 (h + 1) S9 K9 P9 Y (by omega) (by omega) (by first | exact lyH_n hH (by omega) | exact lyH_y hH zNe (by omega) (by omega)) (by first | exact (fun i z => by have z2 := hK9 i z; omega) | (intro i z; have z2 := hK9 i z; split; omega; exact ⟨(tc9_r hK9 12 i z).1, Int.le_trans (tc9_r hK9 12 i z).2 (by omega)⟩))
                            · skip
                              refine hv_aload_n C 1 2 dX10_lay_121 rfl rfl ?_
                              refine hv_aload C 4 0 dX10_lay_122 rfl ?_
                              refine zc_get C K (v := .int (iz (A (280 + 8 * h + 7)))) 6 rfl hu_4 (by decide) (cw_ob o3) rfl fl_X10_63 rfl dX10_lay_124 ?_
                              refine hv_nm (fun x4 ex4 => ?_)
                              have rx4 : inI x4 := by rw [ex4]; exact (hA _)
                              refine zt_callV [.int (iz x4)] [] C K (cw_at 1 rfl) rfl (k_X8_isSeen l A (sA (sA (sA (sA (sA (sA τ 18 Y) 25 S9) 26 E9) 27 K9) 28 (ow9 A (τ 28) (A 1).toNat)) 29 P9) x4 hA (by repeat (first | exact hR | refine rl_sA (by decide) ?_)) (by omega)) ck_X10_67 (by decide) ⟨Nat.zero_le _, Nat.zero_le _⟩ rfl (Nat.le_of_ble_eq_true rfl) dX10_lay_127 ?_
                              refine hv_as (xb (decide (A 9 = -1 ∨ x4 ≤ A 9))) rfl ?_
                              refine hv_dif_eq C 160 dX10_lay_130 (by decide)  (fun h130 => ?_) (fun h130 => ?_)
                              · skip
                                refine hv_iinc C 3 4 [(3, .int (iz (((h : Nat) : Int) + 1))), (4, .ref p3), (0, .ref (b + 24)), (1, .ref (b + 1)), (2, .int (iz pl))] dX10_lay_160 rfl (by decide) rfl ?_
                                refine hv_goto C 88 dX10_lay_163 (by decide) ?_
                                refine hv_loc [2, 3, 4, 0] [(0, .ref (b + 24)), (1, .ref (b + 1)), (2, .int (iz pl)), (3, .int (iz (((h : Nat) : Int) + 1)))] rfl ?_
                                exact ih88 (h + 1) S9 K9 P9 Y (by omega) (by omega) (by first | exact lyH_n hH (by omega) | exact lyH_y hH zNe (by omega) (by omega)) (by first | exact (fun i z => by have z2 := hK9 i z; omega) | (intro i z; have z2 := hK9 i z; split; omega; exact ⟨(tc9_r hK9 12 i z).1, Int.le_trans (tc9_r hK9 12 i z).2 (by omega)⟩))
                              · skip
                                have hhk := hh h (by omega)
                                refine hv_aload_n C 0 1 dX10_lay_133 rfl rfl ?_
                                refine zc_get C K (v := .ref (b + 25)) 0 rfl hu_11 (by decide) (cw_at 24 rfl) rfl fl_X10_9 rfl dX10_lay_134 ?_
                                refine hv_iload_n C 3 4 dX10_lay_137 rfl rfl ?_
                                refine hv_aload_n C 0 1 dX10_lay_138 rfl rfl ?_
                                refine hv_aload_n C 1 2 dX10_lay_139 rfl rfl ?_
                                refine hv_aload_n C 0 1 dX10_lay_140 rfl rfl ?_
                                refine hv_aload_n C 1 2 dX10_lay_141 rfl rfl ?_
                                refine hv_iload_n C 3 4 dX10_lay_142 rfl rfl ?_
                                refine zt_callV [.ref (b + 1), .int (iz ((h : Nat) : Int))] [.ref (b + 1), .ref (b + 24), .int (iz ((h : Nat) : Int)), .ref (b + 25)] C K (cw_at 24 rfl) rfl (k_X10_townsOf_wa l A (sA (sA (sA (sA (sA (sA τ 18 Y) 25 S9) 26 E9) 27 K9) 28 (ow9 A (τ 28) (A 1).toNat)) 29 P9) h hA (by repeat (first | exact hR | refine rl_sA (by decide) ?_)) hc hh hs (by omega) (fun i z => hEr i)) ck_X10_70 (by decide) ⟨Nat.zero_le _, Nat.zero_le _⟩ rfl (Nat.le_of_ble_eq_true rfl) dX10_lay_143 ?_
                                refine hv_as (((tz9 A E9 h (A 2).toNat : Nat) : Int)) rfl ?_
                                have hK9i : ∀ i, i < 12 → inI (K9 i) := fun i z => by have z2 := hK9 i z; exact ⟨by omega, by omega⟩
                                have ztz := tz9_lt (E := E9) hh hs (h := h) (by omega) (A 2).toNat (by omega)
                                refine zt_callV [.ref (b + 1), .int (iz ((tz9 A E9 h (A 2).toNat : Nat) : Int))] [.int (iz ((h : Nat) : Int)), .ref (b + 25)] C K (cw_at 24 rfl) rfl (k_X10_leastString_wa l A (sA (sA (sA (sA (sA (sA τ 18 Y) 25 S9) 26 E9) 27 K9) 28 (ow9 A (τ 28) (A 1).toNat)) 29 P9) (tz9 A E9 h (A 2).toNat) hA (by repeat (first | exact hR | refine rl_sA (by decide) ?_)) hc hwi ztz hOO hK9i) ck_X10_74 (by decide) ⟨Nat.zero_le _, Nat.zero_le _⟩ rfl (Nat.le_of_ble_eq_true rfl) dX10_lay_146 ?_
                                refine hv_as ((wqN A K9 (ow9 A (τ 28) (A 1).toNat) P9 (tz9 A E9 h (A 2).toNat))) rfl ?_
                                refine zt_st (τ2 := sA (sA (sA (sA (sA (sA τ 18 Y) 25 S9) 26 E9) 27 K9) 28 (ow9 A (τ 28) (A 1).toNat)) 29 (wqL A K9 (ow9 A (τ 28) (A 1).toNat) P9 (tz9 A E9 h (A 2).toNat) (2 ^ (A 0).toNat - (tz9 A E9 h (A 2).toNat))).1) (by first | rfl | (funext j9; by_cases hj18 : j9 = 18; (subst hj18; first | rfl | exact ua_ua | (funext i9; simp only [sA, ua]; (repeat' split) <;> first | rfl | (exfalso; omega) | (subst_vars; rfl))); by_cases hj25 : j9 = 25; (subst hj25; first | rfl | exact ua_ua | (funext i9; simp only [sA, ua]; (repeat' split) <;> first | rfl | (exfalso; omega) | (subst_vars; rfl))); by_cases hj26 : j9 = 26; (subst hj26; first | rfl | exact ua_ua | (funext i9; simp only [sA, ua]; (repeat' split) <;> first | rfl | (exfalso; omega) | (subst_vars; rfl))); by_cases hj27 : j9 = 27; (subst hj27; first | rfl | exact ua_ua | (funext i9; simp only [sA, ua]; (repeat' split) <;> first | rfl | (exfalso; omega) | (subst_vars; rfl))); by_cases hj28 : j9 = 28; (subst hj28; first | rfl | exact ua_ua | (funext i9; simp only [sA, ua]; (repeat' split) <;> first | rfl | (exfalso; omega) | (subst_vars; rfl))); by_cases hj29 : j9 = 29; (subst hj29; first | rfl | exact ua_ua | (funext i9; simp only [sA, ua]; (repeat' split) <;> first | rfl | (exfalso; omega) | (subst_vars; rfl))); simp only [sA, if_neg hj18, if_neg hj25, if_neg hj26, if_neg hj27, if_neg hj28, if_neg hj29])) ?_
                                refine hv_nm (fun x5 ex5 => ?_)
                                have zN : -1 ≤ x5 ∧ x5 ≤ 4095 := by rw [ex5]; exact wqN_r hwi (by omega) hOO _ _
                                have zNe := ex5
                                refine zc_iast C K (f := S9) h (cw_at 25 rfl) (cw_set 25 h x5 rfl) (by omega) (by omega) (by decide) dX10_lay_149 ?_
                                refine zt_st (τ2 := sA (sA (sA (sA (sA (sA τ 18 Y) 25 (ua S9 h x5)) 26 E9) 27 K9) 28 (ow9 A (τ 28) (A 1).toNat)) 29 (wqL A K9 (ow9 A (τ 28) (A 1).toNat) P9 (tz9 A E9 h (A 2).toNat) (2 ^ (A 0).toNat - (tz9 A E9 h (A 2).toNat))).1) (by rw [u2_sA, sA_comm (j := 29) (k := 25) (by decide), sA_comm (j := 28) (k := 25) (by decide), sA_comm (j := 27) (k := 25) (by decide), sA_comm (j := 26) (k := 25) (by decide), sA_sA]; first | done | rfl) ?_
                                refine hv_aload_n C 0 1 dX10_lay_150 rfl rfl ?_
                                refine hv_aload_n C 0 1 dX10_lay_151 rfl rfl ?_
                                refine zc_get C K (v := .ref (b + 25)) 0 rfl hu_11 (by decide) (cw_at 24 rfl) rfl fl_X10_9 rfl dX10_lay_152 ?_
                                refine hv_iload_n C 3 4 dX10_lay_155 rfl rfl ?_
                                refine zc_iald C K (f := (ua S9 h x5)) h (cw_at 25 rfl) (by omega) (by omega) (by decide) dX10_lay_156 ?_
                                refine hv_nm (fun x6 ex6 => ?_)
                                refine hv_as (x5) (by rw [ex6, ua_at]) ?_
                                refine zt_callV [.int (iz x5)] [] C K (cw_at 24 rfl) rfl (k_X10_takeCircuits_wa l  (sA (sA (sA (sA (sA (sA τ 18 Y) 25 (ua S9 h x5)) 26 E9) 27 K9) 28 (ow9 A (τ 28) (A 1).toNat)) 29 (wqL A K9 (ow9 A (τ 28) (A 1).toNat) P9 (tz9 A E9 h (A 2).toNat) (2 ^ (A 0).toNat - (tz9 A E9 h (A 2).toNat))).1) x5 zN) ck_X10_77 (by decide) ⟨Nat.zero_le _, Nat.zero_le _⟩ rfl (Nat.le_of_ble_eq_true rfl) dX10_lay_157 ?_
                                refine zt_st (τ2 := sA (sA (sA (sA (sA (sA τ 18 Y) 25 (ua S9 h x5)) 26 E9) 27 (if x5 = -1 then K9 else tc9 K9 x5 12)) 28 (ow9 A (τ 28) (A 1).toNat)) 29 (wqL A K9 (ow9 A (τ 28) (A 1).toNat) P9 (tz9 A E9 h (A 2).toNat) (2 ^ (A 0).toNat - (tz9 A E9 h (A 2).toNat))).1) (by first | rfl | (funext j9; by_cases hj18 : j9 = 18; (subst hj18; first | rfl | exact ua_ua | (funext i9; simp only [sA, ua]; (repeat' split) <;> first | rfl | (exfalso; omega) | (subst_vars; rfl))); by_cases hj25 : j9 = 25; (subst hj25; first | rfl | exact ua_ua | (funext i9; simp only [sA, ua]; (repeat' split) <;> first | rfl | (exfalso; omega) | (subst_vars; rfl))); by_cases hj26 : j9 = 26; (subst hj26; first | rfl | exact ua_ua | (funext i9; simp only [sA, ua]; (repeat' split) <;> first | rfl | (exfalso; omega) | (subst_vars; rfl))); by_cases hj27 : j9 = 27; (subst hj27; first | rfl | exact ua_ua | (funext i9; simp only [sA, ua]; (repeat' split) <;> first | rfl | (exfalso; omega) | (subst_vars; rfl))); by_cases hj28 : j9 = 28; (subst hj28; first | rfl | exact ua_ua | (funext i9; simp only [sA, ua]; (repeat' split) <;> first | rfl | (exfalso; omega) | (subst_vars; rfl))); by_cases hj29 : j9 = 29; (subst hj29; first | rfl | exact ua_ua | (funext i9; simp only [sA, ua]; (repeat' split) <;> first | rfl | (exfalso; omega) | (subst_vars; rfl))); simp only [sA, if_neg hj18, if_neg hj25, if_neg hj26, if_neg hj27, if_neg hj28, if_neg hj29])) ?_
                                refine hv_iinc C 3 4 [(3, .int (iz (((h : Nat) : Int) + 1))), (4, .ref p3), (0, .ref (b + 24)), (1, .ref (b + 1)), (2, .int (iz pl))] dX10_lay_160 rfl (by decide) rfl ?_
                                refine hv_goto C 88 dX10_lay_163 (by decide) ?_
                                refine hv_loc [2, 3, 4, 0] [(0, .ref (b + 24)), (1, .ref (b + 1)), (2, .int (iz pl)), (3, .int (iz (((h : Nat) : Int) + 1)))] rfl ?_
                                exact ih88 (h + 1) (ua S9 h x5) (if x5 = -1 then K9 else tc9 K9 x5 12) (wqL A K9 (ow9 A (τ 28) (A 1).toNat) P9 (tz9 A E9 h (A 2).toNat) (2 ^ (A 0).toNat - (tz9 A E9 h (A 2).toNat))).1 Y (by omega) (by omega) (by first | exact lyH_n hH (by omega) | exact lyH_y hH zNe (by omega) (by omega)) (by first | exact (fun i z => by have z2 := hK9 i z; omega) | (intro i z; have z2 := hK9 i z; split; omega; exact ⟨(tc9_r hK9 12 i z).1, Int.le_trans (tc9_r hK9 12 i z).2 (by omega)⟩))
                      refine hv_loc [1, 2, 3, 0] [(0, .ref (b + 24)), (1, .ref (b + 1)), (2, .int (iz pl)), (3, .int (iz 0))] rfl ?_
                      refine zt_st (τ2 := sA (sA (sA (sA (sA (sA τ 18 X) 25 S1) 26 E9) 27 K1) 28 (ow9 A (τ 28) (A 1).toNat)) 29 (τ 29)) ((sA_id (sA (sA (sA (sA (sA τ 18 X) 25 S1) 26 E9) 27 K1) 28 (ow9 A (τ 28) (A 1).toNat)) 29).symm) ?_
                      exact L88 _ 0 S1 K1 (τ 29) X (Nat.lt_succ_self _) (by omega) rfl (fun i z => by rw [hK1, show v = 12 by omega, zt_0 _ 12 i z]; omega)
                    · skip
                      refine hv_aload_n C 0 0 dX10_lay_68 rfl rfl ?_
                      refine zc_get C K (v := .ref (b + 26)) 1 rfl hu_11 (by decide) (cw_at 24 rfl) rfl fl_X10_15 rfl dX10_lay_69 ?_
                      refine hv_iload_n C 3 3 dX10_lay_72 rfl rfl ?_
                      refine hv_aload_n C 1 1 dX10_lay_73 rfl rfl ?_
                      refine hv_iload_n C 3 3 dX10_lay_74 rfl rfl ?_
                      refine hv_iload_n C 2 2 dX10_lay_75 rfl rfl ?_
                      refine zx_callV [.int (iz ((s9 : Nat) : Int)), .int (iz pl)] [.int (iz ((s9 : Nat) : Int)), .ref (b + 26)] C K (cw_at 1 rfl) rfl (k_X8_sentAt l A (pl / 48) (pl % 48) (sA (sA (sA (sA (sA τ 18 X) 25 S1) 26 E9) 27 K1) 28 (ow9 A (τ 28) (A 1).toNat)) s9 pl hA (by repeat (first | exact hR | refine rl_sA (by decide) ?_)) hs hh hl hlj hc hm hb (by omega) (by omega)) ck_X10_47 (by decide) ⟨Nat.zero_le _, Nat.zero_le _⟩ rfl (Nat.le_of_ble_eq_true rfl) dX10_lay_76 (fun X7 => ?_)
                      refine hv_as ((sd A s9 (pl / 48) (pl % 48))) rfl ?_
                      refine zt_st (τ2 := sA (sA (sA (sA (sA τ 18 X7) 25 S1) 26 E9) 27 K1) 28 (ow9 A (τ 28) (A 1).toNat)) (by rw [sA_comm (j := 28) (k := 18) (by decide), sA_comm (j := 27) (k := 18) (by decide), sA_comm (j := 26) (k := 18) (by decide), sA_comm (j := 25) (k := 18) (by decide), sA_sA]) ?_
                      refine hv_nm (fun x8 ex8 => ?_)
                      have rx8 : inI x8 := by rw [ex8]; exact (by have z := sd_rng hc s9 (pl / 48) (pl % 48); exact ⟨by omega, by omega⟩)
                      refine zc_iast C K (f := E9) s9 (cw_at 26 rfl) (cw_set 26 s9 x8 rfl) (by omega) (by omega) (by decide) dX10_lay_79 ?_
                      refine zt_st (τ2 := sA (sA (sA (sA (sA τ 18 X7) 25 S1) 26 (ua E9 s9 x8)) 27 K1) 28 (ow9 A (τ 28) (A 1).toNat)) (by rw [u2_sA, sA_comm (j := 28) (k := 26) (by decide), sA_comm (j := 27) (k := 26) (by decide), sA_sA]; first | done | rfl) ?_
                      refine hv_iinc C 3 3 [(3, .int (iz (((s9 : Nat) : Int) + 1))), (0, .ref (b + 24)), (1, .ref (b + 1)), (2, .int (iz pl))] dX10_lay_80 rfl (by decide) rfl ?_
                      refine hv_goto C 57 dX10_lay_83 (by decide) ?_
                      refine hv_loc [1, 2, 3, 0] [(0, .ref (b + 24)), (1, .ref (b + 1)), (2, .int (iz pl)), (3, .int (iz (((s9 : Nat) : Int) + 1)))] rfl ?_
                      exact ih57 (s9 + 1) (ua E9 s9 x8) X7 (by omega) (by omega) (by rw [lyE, ← hE9]; congr 1) (in_ua hEr (by assumption))
                refine hv_loc [1, 2, 3, 0] [(0, .ref (b + 24)), (1, .ref (b + 1)), (2, .int (iz pl)), (3, .int (iz 0))] rfl ?_
                refine zt_st (τ2 := sA (sA (sA (sA (sA τ 18 (τ 18)) 25 S1) 26 (nm9 (τ 26))) 27 K1) 28 (ow9 A (τ 28) (A 1).toNat)) ((sA_id (sA (sA (sA (sA τ 25 S1) 26 (nm9 (τ 26))) 27 K1) 28 (ow9 A (τ 28) (A 1).toNat)) 18).symm.trans (by rw [sA_comm (j := 28) (k := 18) (by decide), sA_comm (j := 27) (k := 18) (by decide), sA_comm (j := 26) (k := 18) (by decide), sA_comm (j := 25) (k := 18) (by decide)]; first | done | rfl)) ?_
                exact L57 _ 0 (nm9 (τ 26)) (τ 18) (Nat.lt_succ_self _) (by omega) rfl (nm9_in _)
              · skip
                refine hv_aload_n C 0 0 dX10_lay_37 rfl rfl ?_
                refine zc_get C K (v := .ref (b + 27)) 2 rfl hu_11 (by decide) (cw_at 24 rfl) rfl fl_X10_18 rfl dX10_lay_38 ?_
                refine hv_iload_n C 3 3 dX10_lay_41 rfl rfl ?_
                refine hv_iconst C dX10_lay_42 ?_
                refine zc_iast C K (f := K1) v (cw_at 27 rfl) (cw_set 27 v 0 rfl) (by omega) (by omega) (by decide) dX10_lay_43 ?_
                refine zt_st (τ2 := sA (sA τ 25 S1) 27 (ua K1 v 0)) (by rw [u2_sA, sA_sA]; first | done | rfl) ?_
                refine hv_iinc C 3 3 [(3, .int (iz (((v : Nat) : Int) + 1))), (0, .ref (b + 24)), (1, .ref (b + 1)), (2, .int (iz pl))] dX10_lay_44 rfl (by decide) rfl ?_
                refine hv_goto C 31 dX10_lay_47 (by decide) ?_
                refine hv_loc [1, 2, 3, 0] [(0, .ref (b + 24)), (1, .ref (b + 1)), (2, .int (iz pl)), (3, .int (iz (((v : Nat) : Int) + 1)))] rfl ?_
                exact ih31 (v + 1) (ua K1 v 0) (by omega) (by omega) (by rw [hK1]; rfl)
          refine hv_loc [1, 2, 3, 0] [(0, .ref (b + 24)), (1, .ref (b + 1)), (2, .int (iz pl)), (3, .int (iz 0))] rfl ?_
          refine zt_st (τ2 := sA (sA τ 25 S1) 27 (τ 27)) ((sA_id (sA τ 25 S1) 27).symm) ?_
          exact L31 _ 0 (τ 27) (Nat.lt_succ_self _) (by omega) rfl
        · skip
          have zLS : lyS A pl (τ 25) (τ 26) (τ 27) (τ 28) (τ 29) = S1 := by unfold lyS; rw [if_neg (by omega), hS1, show k = 24 by omega]
          exact zs_vret C hr hlk ⟨(sA τ 25 S1), by rw [zLS]; first | rfl | (funext j9; by_cases hj18 : j9 = 18; (subst hj18; rfl); by_cases hj25 : j9 = 25; (subst hj25; rfl); by_cases hj26 : j9 = 26; (subst hj26; rfl); by_cases hj27 : j9 = 27; (subst hj27; rfl); by_cases hj28 : j9 = 28; (subst hj28; rfl); by_cases hj29 : j9 = 29; (subst hj29; rfl); simp only [sA, if_neg hj18, if_neg hj25, if_neg hj26, if_neg hj27, if_neg hj28, if_neg hj29])⟩ dX10_lay_28
      · skip
        refine hv_aload_n C 0 0 dX10_lay_8 rfl rfl ?_
        refine zc_get C K (v := .ref (b + 25)) 0 rfl hu_11 (by decide) (cw_at 24 rfl) rfl fl_X10_9 rfl dX10_lay_9 ?_
        refine hv_iload_n C 3 3 dX10_lay_12 rfl rfl ?_
        refine hv_iconst C dX10_lay_13 ?_
        refine zc_iast C K (f := S1) k (cw_at 25 rfl) (cw_set 25 k (-1) rfl) (by omega) (by omega) (by decide) dX10_lay_14 ?_
        refine zt_st (τ2 := sA τ 25 (ua S1 k (-1))) (by rw [u2_sA, sA_sA]; first | done | rfl) ?_
        refine hv_iinc C 3 3 [(3, .int (iz (((k : Nat) : Int) + 1))), (0, .ref (b + 24)), (1, .ref (b + 1)), (2, .int (iz pl))] dX10_lay_15 rfl (by decide) rfl ?_
        refine hv_goto C 2 dX10_lay_18 (by decide) ?_
        refine hv_loc [1, 2, 3, 0] [(0, .ref (b + 24)), (1, .ref (b + 1)), (2, .int (iz pl)), (3, .int (iz (((k : Nat) : Int) + 1)))] rfl ?_
        exact ih2 (k + 1) (ua S1 k (-1)) (by omega) (by omega) (by rw [hS1]; rfl)
  refine hv_loc [1, 2, 3, 0] [(0, .ref (b + 24)), (1, .ref (b + 1)), (2, .int (iz pl)), (3, .int (iz 0))] rfl ?_
  refine zt_st (τ2 := sA τ 25 (τ 25)) ((sA_id τ 25).symm) ?_
  exact L2 _ 0 (τ 25) (Nat.lt_succ_self _) (by omega) rfl
set_option maxRecDepth 100000 in
set_option maxHeartbeats 4000000 in
theorem k_X10_lay_wb (l : Launch) {D : va_G} {ar : Nat → ClassId} {B : Nat → Prop} {b n : Nat} {w0 : zcW} (A : Nat → Int) (τ : Nat → Nat → Int) (pl : Int) (hA : ∀ i, inI (A i)) (hR : Rel9 ar b w0 A τ) (hs : si A) (hh : hi A) (hl : li A) (hlj : lj9 A) (hc : cn A) (hm : mI A) (hb : bI A) (hwi : wi A) (r_pl : inI pl) : zs_M l D ar B b w0 n yX10_lay cX10_lay 5 none 6 152 [.ref (b + 30), .ref (b + 1), .int (iz pl)] τ none (fun (X : Nat → Nat → Int) => sA (sA (sA (sA (sA (sA τ 18 (X 18)) 31 (lyS A pl (τ 31) (τ 32) (τ 33) (τ 34) (τ 35))) 32 (X 32)) 33 (X 33)) 34 (X 34)) 35 (X 35)) := by
  refine zc_start (own := RX10) (by decide +kernel) rfl (Nat.le_of_ble_eq_true rfl) ?_
  intro p e s m args below meth c C K hr hlk hnam
  have n3 := hR.l3.1
  have n7 := hR.l7.1
  refine hv_iconst C dX10_lay_0 ?_
  refine hv_istore_n C 3 [(3, .int (iz 0)), (0, .ref (b + 30)), (1, .ref (b + 1)), (2, .int (iz pl))] dX10_lay_1 rfl (by decide) rfl ?_
  have L2 : ∀ (f : Nat) (k : Nat) (S1 : Nat → Int), 24 - k < f → (k ≤ 24) → (S1 = mz (τ 31) k) → hvV p l e { frames := 6, cells := 0, slots := 0, locals := 152 } s m args below meth c 5 B 0 0 (MQ below (zc_Q D B (fun r' w' n' => r' = none ∧ (∃ X : Nat → Nat → Int, w' = cw ar b (sA (sA (sA (sA (sA (sA τ 18 (X 18)) 31 (lyS A pl (τ 31) (τ 32) (τ 33) (τ 34) (τ 35))) 32 (X 32)) 33 (X 33)) 34 (X 34)) 35 (X 35)) w0) ∧ n' = n)) args s 0 0 B) (zc_I D B (cw ar b (sA τ 31 S1) w0) n s.heap) 2 [(0, .ref (b + 30)), (1, .ref (b + 1)), (2, .int (iz pl)), (3, .int (iz ((k : Nat) : Int)))] [] := by
    intro f
    induction f with
    | zero => intro _ _ hm; exact absurd hm (Nat.not_lt_zero _)
    | succ f ih2 =>
      intro k S1 hm2 hk hS1
      refine hv_iload_n C 3 3 dX10_lay_2 rfl rfl ?_
      refine hv_bipush C dX10_lay_3 (by decide) ?_
      refine hv_icmp_ge C 21 dX10_lay_5 (by decide) (by omega) (by omega) (fun h5 => ?_) (fun h5 => ?_)
      · skip
        refine hv_iload_n C 2 2 dX10_lay_21 rfl rfl ?_
        refine zt_callN [.int (iz pl)] [] C K (k_X11_isPlace l  (sA τ 31 S1) pl (by omega)) ck_X10_27 (by decide) ⟨Nat.zero_le _, Nat.zero_le _⟩ rfl (Nat.le_of_ble_eq_true rfl) dX10_lay_22 ?_
        refine hv_as (xb (decide (0 ≤ pl ∧ pl ≤ 9599))) rfl ?_
        refine hv_dif_ne C 29 dX10_lay_25 (by decide)  (fun h25 => ?_) (fun h25 => ?_)
        · skip
          refine hv_iconst C dX10_lay_29 ?_
          refine hv_istore_n C 3 [(3, .int (iz 0)), (0, .ref (b + 30)), (1, .ref (b + 1)), (2, .int (iz pl))] dX10_lay_30 rfl (by decide) rfl ?_
          have L31 : ∀ (f : Nat) (v : Nat) (K1 : Nat → Int), 12 - v < f → (v ≤ 12) → (K1 = zt (τ 33) v) → hvV p l e { frames := 6, cells := 0, slots := 0, locals := 152 } s m args below meth c 5 B 0 0 (MQ below (zc_Q D B (fun r' w' n' => r' = none ∧ (∃ X : Nat → Nat → Int, w' = cw ar b (sA (sA (sA (sA (sA (sA τ 18 (X 18)) 31 (lyS A pl (τ 31) (τ 32) (τ 33) (τ 34) (τ 35))) 32 (X 32)) 33 (X 33)) 34 (X 34)) 35 (X 35)) w0) ∧ n' = n)) args s 0 0 B) (zc_I D B (cw ar b (sA (sA τ 31 S1) 33 K1) w0) n s.heap) 31 [(0, .ref (b + 30)), (1, .ref (b + 1)), (2, .int (iz pl)), (3, .int (iz ((v : Nat) : Int)))] [] := by
            intro f
            induction f with
            | zero => intro _ _ hm; exact absurd hm (Nat.not_lt_zero _)
            | succ f ih31 =>
              intro v K1 hm31 hv hK1
              refine hv_iload_n C 3 3 dX10_lay_31 rfl rfl ?_
              refine hv_bipush C dX10_lay_32 (by decide) ?_
              refine hv_icmp_ge C 50 dX10_lay_34 (by decide) (by omega) (by omega) (fun h34 => ?_) (fun h34 => ?_)
              · skip
                refine hv_aload_n C 0 0 dX10_lay_50 rfl rfl ?_
                refine hv_aload_n C 1 1 dX10_lay_51 rfl rfl ?_
                refine zt_callV [.ref (b + 1)] [] C K (cw_at 30 rfl) rfl (k_X10_orderWires_wb l A (sA (sA τ 31 S1) 33 K1)  hA (by repeat (first | exact hR | refine rl_sA (by decide) ?_)) hc hwi) ck_X10_31 (by decide) ⟨Nat.zero_le _, Nat.zero_le _⟩ rfl (Nat.le_of_ble_eq_true rfl) dX10_lay_52 ?_
                refine zt_st (τ2 := sA (sA (sA τ 31 S1) 33 K1) 34 (ow9 A (τ 34) (A 1).toNat)) (by first | rfl | (funext j9; by_cases hj31 : j9 = 31; (subst hj31; first | rfl | exact ua_ua | (funext i9; simp only [sA, ua]; (repeat' split) <;> first | rfl | (exfalso; omega) | (subst_vars; rfl))); by_cases hj33 : j9 = 33; (subst hj33; first | rfl | exact ua_ua | (funext i9; simp only [sA, ua]; (repeat' split) <;> first | rfl | (exfalso; omega) | (subst_vars; rfl))); by_cases hj34 : j9 = 34; (subst hj34; first | rfl | exact ua_ua | (funext i9; simp only [sA, ua]; (repeat' split) <;> first | rfl | (exfalso; omega) | (subst_vars; rfl))); simp only [sA, if_neg hj31, if_neg hj33, if_neg hj34])) ?_
                refine zt_cw (τ2 := sA (sA (sA (sA τ 31 S1) 32 (nm9 (τ 32))) 33 K1) 34 (ow9 A (τ 34) (A 1).toNat)) ((cw_nm (sA (sA (sA τ 31 S1) 33 K1) 34 (ow9 A (τ 34) (A 1).toNat)) 32 (fun t => by simp [gcell, nm9, iz_of])).trans (congrArg (fun x9 => cw ar b x9 w0) (by rw [sA_comm (j := 34) (k := 32) (by decide), sA_comm (j := 33) (k := 32) (by decide)]; first | done | rfl))) ?_
                have hOO : ∀ i : Nat, (i : Int) < A 1 → 0 ≤ (ow9 A (τ 34) (A 1).toNat) i ∧ (ow9 A (τ 34) (A 1).toNat) i < A 1 := fun i z => by have z2 := ow9_g (A := A) (O := τ 34) (A 1).toNat i (by omega); omega
                refine hv_iconst C dX10_lay_55 ?_
                refine hv_istore_n C 3 [(3, .int (iz 0)), (0, .ref (b + 30)), (1, .ref (b + 1)), (2, .int (iz pl))] dX10_lay_56 rfl (by decide) rfl ?_
                have L57 : ∀ (f : Nat) (s9 : Nat) (E9 : Nat → Int) (X : Nat → Int), (A 2).toNat - s9 < f → ((s9 : Int) ≤ A 2) → (E9 = lyE A pl (nm9 (τ 32)) s9) → (∀ i, inI (E9 i)) → hvV p l e { frames := 6, cells := 0, slots := 0, locals := 152 } s m args below meth c 5 B 0 0 (MQ below (zc_Q D B (fun r' w' n' => r' = none ∧ (∃ X : Nat → Nat → Int, w' = cw ar b (sA (sA (sA (sA (sA (sA τ 18 (X 18)) 31 (lyS A pl (τ 31) (τ 32) (τ 33) (τ 34) (τ 35))) 32 (X 32)) 33 (X 33)) 34 (X 34)) 35 (X 35)) w0) ∧ n' = n)) args s 0 0 B) (zc_I D B (cw ar b (sA (sA (sA (sA (sA τ 18 X) 31 S1) 32 E9) 33 K1) 34 (ow9 A (τ 34) (A 1).toNat)) w0) n s.heap) 57 [(0, .ref (b + 30)), (1, .ref (b + 1)), (2, .int (iz pl)), (3, .int (iz ((s9 : Nat) : Int)))] [] := by
                  intro f
                  induction f with
                  | zero => intro _ _ _ hm; exact absurd hm (Nat.not_lt_zero _)
                  | succ f ih57 =>
                    intro s9 E9 X hm57 hs9 hE9 hEr
                    refine hv_iload_n C 3 3 dX10_lay_57 rfl rfl ?_
                    refine hv_aload_n C 1 1 dX10_lay_58 rfl rfl ?_
                    refine zc_get C K (v := .ref (b + 3)) 2 rfl hu_9 (by decide) (cw_at 1 rfl) rfl fl_X10_35 rfl dX10_lay_59 ?_
                    refine zt_callV [] [.int (iz ((s9 : Nat) : Int))] C K (cw_at 3 rfl) rfl (k_Jx4a65c_size_8abf5 l 3 (sA (sA (sA (sA (sA τ 18 X) 31 S1) 32 E9) 33 K1) 34 (ow9 A (τ 34) (A 1).toNat))  rfl) ck_X10_41 (by decide) ⟨Nat.zero_le _, Nat.zero_le _⟩ rfl (Nat.le_of_ble_eq_true rfl) dX10_lay_62 ?_
                    refine hv_as ((τ 3 2)) rfl ?_
                    refine hv_nm (fun x1 ex1 => ?_)
                    have rx1 : inI x1 := by rw [ex1]; exact (by have z := hA 2; omega)
                    refine hv_icmp_ge C 86 dX10_lay_65 (by decide) (by omega) (by omega) (fun h65 => ?_) (fun h65 => ?_)
                    · skip
                      have hE9e := hE9
                      rw [show s9 = (A 2).toNat by omega] at hE9e
                      have hK1e := hK1
                      rw [show v = 12 by omega] at hK1e
                      have hS1e := hS1
                      rw [show k = 24 by omega] at hS1e
                      refine hv_iconst C dX10_lay_86 ?_
                      refine hv_istore_n C 3 [(3, .int (iz 0)), (0, .ref (b + 30)), (1, .ref (b + 1)), (2, .int (iz pl))] dX10_lay_87 rfl (by decide) rfl ?_
                      have L88 : ∀ (f : Nat) (h : Nat) (S9 : Nat → Int) (K9 : Nat → Int) (P9 : Nat → Int) (Y : Nat → Int), (A 4).toNat - h < f → ((h : Int) ≤ A 4) → (lyH A E9 (ow9 A (τ 34) (A 1).toNat) pl S1 K1 (τ 35) h = (S9, K9, P9)) → (∀ i : Nat, i < 12 → 0 ≤ K9 i ∧ K9 i ≤ (h : Int)) → hvV p l e { frames := 6, cells := 0, slots := 0, locals := 152 } s m args below meth c 5 B 0 0 (MQ below (zc_Q D B (fun r' w' n' => r' = none ∧ (∃ X : Nat → Nat → Int, w' = cw ar b (sA (sA (sA (sA (sA (sA τ 18 (X 18)) 31 (lyS A pl (τ 31) (τ 32) (τ 33) (τ 34) (τ 35))) 32 (X 32)) 33 (X 33)) 34 (X 34)) 35 (X 35)) w0) ∧ n' = n)) args s 0 0 B) (zc_I D B (cw ar b (sA (sA (sA (sA (sA (sA τ 18 Y) 31 S9) 32 E9) 33 K9) 34 (ow9 A (τ 34) (A 1).toNat)) 35 P9) w0) n s.heap) 88 [(0, .ref (b + 30)), (1, .ref (b + 1)), (2, .int (iz pl)), (3, .int (iz ((h : Nat) : Int)))] [] := by
                        intro f
                        induction f with
                        | zero => intro _ _ _ _ _ hm; exact absurd hm (Nat.not_lt_zero _)
                        | succ f ih88 =>
                          intro h S9 K9 P9 Y hm88 h4 hH hK9
                          refine hv_iload_n C 3 3 dX10_lay_88 rfl rfl ?_
                          refine hv_aload_n C 1 1 dX10_lay_89 rfl rfl ?_
                          refine zc_get C K (v := .ref (b + 7)) 6 rfl hu_9 (by decide) (cw_at 1 rfl) rfl fl_X10_51 rfl dX10_lay_90 ?_
                          refine zt_callV [] [.int (iz ((h : Nat) : Int))] C K (cw_at 7 rfl) rfl (k_Jx4a65c_size_8abf5 l 7 (sA (sA (sA (sA (sA (sA τ 18 Y) 31 S9) 32 E9) 33 K9) 34 (ow9 A (τ 34) (A 1).toNat)) 35 P9)  rfl) ck_X10_41 (by decide) ⟨Nat.zero_le _, Nat.zero_le _⟩ rfl (Nat.le_of_ble_eq_true rfl) dX10_lay_93 ?_
                          refine hv_as ((τ 7 2)) rfl ?_
                          refine hv_nm (fun x2 ex2 => ?_)
                          have rx2 : inI x2 := by rw [ex2]; exact (by have z := hA 4; omega)
                          refine hv_icmp_ge C 166 dX10_lay_96 (by decide) (by omega) (by omega) (fun h96 => ?_) (fun h96 => ?_)
                          · skip
                            have zLS : lyS A pl (τ 31) (τ 32) (τ 33) (τ 34) (τ 35) = S9 := by unfold lyS; rw [if_pos (by omega), ← hE9e, ← hK1e, ← hS1e, show (A 4).toNat = h by omega, hH]
                            exact zs_vret C hr hlk ⟨(sA (sA (sA (sA (sA (sA τ 18 Y) 31 S9) 32 E9) 33 K9) 34 (ow9 A (τ 34) (A 1).toNat)) 35 P9), by rw [zLS]; first | rfl | (funext j9; by_cases hj18 : j9 = 18; (subst hj18; rfl); by_cases hj31 : j9 = 31; (subst hj31; rfl); by_cases hj32 : j9 = 32; (subst hj32; rfl); by_cases hj33 : j9 = 33; (subst hj33; rfl); by_cases hj34 : j9 = 34; (subst hj34; rfl); by_cases hj35 : j9 = 35; (subst hj35; rfl); simp only [sA, if_neg hj18, if_neg hj31, if_neg hj32, if_neg hj33, if_neg hj34, if_neg hj35])⟩ dX10_lay_166
                          · skip
                            refine hv_aload_n C 1 1 dX10_lay_99 rfl rfl ?_
                            refine zc_get C K (v := .ref (b + 7)) 6 rfl hu_9 (by decide) (cw_at 1 rfl) rfl fl_X10_51 rfl dX10_lay_100 ?_
                            refine hv_iload_n C 3 3 dX10_lay_103 rfl rfl ?_
                            obtain ⟨p3, i3, o3⟩ := ((by repeat (first | exact hR | refine rl_sA (by decide) ?_)) : Rel9 ar b w0 A (sA (sA (sA (sA (sA (sA τ 18 Y) 31 S9) 32 E9) 33 K9) 34 (ow9 A (τ 34) (A 1).toNat)) 35 P9)).l7.2 h (by omega)
                            refine zt_callV [.int (iz ((h : Nat) : Int))] [] C K (cw_at 7 rfl) rfl (k_Jx4a65c_get_915e3 l 7 p3 (sA (sA (sA (sA (sA (sA τ 18 Y) 31 S9) 32 E9) 33 K9) 34 (ow9 A (τ 34) (A 1).toNat)) 35 P9) h rfl i3) ck_X10_54 (by decide) ⟨Nat.zero_le _, Nat.zero_le _⟩ rfl (Nat.le_of_ble_eq_true rfl) dX10_lay_104 ?_
                            refine zc_cast C K (cw_ob o3) (hc := rfl) cl_X10_58 dX10_lay_107 ?_
                            refine hv_astore C 4 [(4, .ref p3), (0, .ref (b + 30)), (1, .ref (b + 1)), (2, .int (iz pl)), (3, .int (iz ((h : Nat) : Int)))] dX10_lay_110 (by decide) rfl ?_
                            refine hv_aload C 4 0 dX10_lay_112 rfl ?_
                            refine hv_iload_n C 2 3 dX10_lay_114 rfl rfl ?_
                            refine zt_callV [.int (iz pl)] [] C K (cw_ob o3) rfl (k_X3_isOnAt l A h p3 (sA (sA (sA (sA (sA (sA τ 18 Y) 31 S9) 32 E9) 33 K9) 34 (ow9 A (τ 34) (A 1).toNat)) 35 P9) pl hA o3 hh (by omega) (by omega)) ck_X10_60 (by decide) ⟨Nat.zero_le _, Nat.zero_le _⟩ rfl (Nat.le_of_ble_eq_true rfl) dX10_lay_115 ?_
                            refine hv_as (xb (decide (48 * A (280 + 8 * h + 1) + A (280 + 8 * h + 2) ≤ pl ∧ pl < 48 * A (280 + 8 * h + 1) + A (280 + 8 * h + 2) + A (280 + 8 * h + 3)))) rfl ?_
                            refine hv_dif_eq C 160 dX10_lay_118 (by decide)  (fun h118 => ?_) (fun h118 => ?_)
                            · skip
                              refine hv_iinc C 3 4 [(3, .int (iz (((h : Nat) : Int) + 1))), (4, .ref p3), (0, .ref (b + 30)), (1, .ref (b + 1)), (2, .int (iz pl))] dX10_lay_160 rfl (by decide) rfl ?_
                              refine hv_goto C 88 dX10_lay_163 (by decide) ?_
                              refine hv_loc [2, 3, 4, 0] [(0, .ref (b + 30)), (1, .ref (b + 1)), (2, .int (iz pl)), (3, .int (iz (((h : Nat) : Int) + 1)))] rfl ?_
                              exact ih88 (h + 1) S9 K9 P9 Y (by omega) (by omega) (by first | exact lyH_n hH (by omega) | exact lyH_y hH zNe (by omega) (by omega)) (by first | exact (fun i z => by have z2 := hK9 i z; omega) | (intro i z; have z2 := hK9 i z; split; omega; exact ⟨(tc9_r hK9 12 i z).1, Int.le_trans (tc9_r hK9 12 i z).2 (by omega)⟩))
                            · skip
                              refine hv_aload_n C 1 2 dX10_lay_121 rfl rfl ?_
                              refine hv_aload C 4 0 dX10_lay_122 rfl ?_
                              refine zc_get C K (v := .int (iz (A (280 + 8 * h + 7)))) 6 rfl hu_4 (by decide) (cw_ob o3) rfl fl_X10_63 rfl dX10_lay_124 ?_
                              refine hv_nm (fun x4 ex4 => ?_)
                              have rx4 : inI x4 := by rw [ex4]; exact (hA _)
                              refine zt_callV [.int (iz x4)] [] C K (cw_at 1 rfl) rfl (k_X8_isSeen l A (sA (sA (sA (sA (sA (sA τ 18 Y) 31 S9) 32 E9) 33 K9) 34 (ow9 A (τ 34) (A 1).toNat)) 35 P9) x4 hA (by repeat (first | exact hR | refine rl_sA (by decide) ?_)) (by omega)) ck_X10_67 (by decide) ⟨Nat.zero_le _, Nat.zero_le _⟩ rfl (Nat.le_of_ble_eq_true rfl) dX10_lay_127 ?_
                              refine hv_as (xb (decide (A 9 = -1 ∨ x4 ≤ A 9))) rfl ?_
                              refine hv_dif_eq C 160 dX10_lay_130 (by decide)  (fun h130 => ?_) (fun h130 => ?_)
                              · skip
                                refine hv_iinc C 3 4 [(3, .int (iz (((h : Nat) : Int) + 1))), (4, .ref p3), (0, .ref (b + 30)), (1, .ref (b + 1)), (2, .int (iz pl))] dX10_lay_160 rfl (by decide) rfl ?_
                                refine hv_goto C 88 dX10_lay_163 (by decide) ?_
                                refine hv_loc [2, 3, 4, 0] [(0, .ref (b + 30)), (1, .ref (b + 1)), (2, .int (iz pl)), (3, .int (iz (((h : Nat) : Int) + 1)))] rfl ?_
                                exact ih88 (h + 1) S9 K9 P9 Y (by omega) (by omega) (by first | exact lyH_n hH (by omega) | exact lyH_y hH zNe (by omega) (by omega)) (by first | exact (fun i z => by have z2 := hK9 i z; omega) | (intro i z; have z2 := hK9 i z; split; omega; exact ⟨(tc9_r hK9 12 i z).1, Int.le_trans (tc9_r hK9 12 i z).2 (by omega)⟩))
                              · skip
                                have hhk := hh h (by omega)
                                refine hv_aload_n C 0 1 dX10_lay_133 rfl rfl ?_
                                refine zc_get C K (v := .ref (b + 31)) 0 rfl hu_11 (by decide) (cw_at 30 rfl) rfl fl_X10_9 rfl dX10_lay_134 ?_
                                refine hv_iload_n C 3 4 dX10_lay_137 rfl rfl ?_
                                refine hv_aload_n C 0 1 dX10_lay_138 rfl rfl ?_
                                refine hv_aload_n C 1 2 dX10_lay_139 rfl rfl ?_
                                refine hv_aload_n C 0 1 dX10_lay_140 rfl rfl ?_
                                refine hv_aload_n C 1 2 dX10_lay_141 rfl rfl ?_
                                refine hv_iload_n C 3 4 dX10_lay_142 rfl rfl ?_
                                refine zt_callV [.ref (b + 1), .int (iz ((h : Nat) : Int))] [.ref (b + 1), .ref (b + 30), .int (iz ((h : Nat) : Int)), .ref (b + 31)] C K (cw_at 30 rfl) rfl (k_X10_townsOf_wb l A (sA (sA (sA (sA (sA (sA τ 18 Y) 31 S9) 32 E9) 33 K9) 34 (ow9 A (τ 34) (A 1).toNat)) 35 P9) h hA (by repeat (first | exact hR | refine rl_sA (by decide) ?_)) hc hh hs (by omega) (fun i z => hEr i)) ck_X10_70 (by decide) ⟨Nat.zero_le _, Nat.zero_le _⟩ rfl (Nat.le_of_ble_eq_true rfl) dX10_lay_143 ?_
                                refine hv_as (((tz9 A E9 h (A 2).toNat : Nat) : Int)) rfl ?_
                                have hK9i : ∀ i, i < 12 → inI (K9 i) := fun i z => by have z2 := hK9 i z; exact ⟨by omega, by omega⟩
                                have ztz := tz9_lt (E := E9) hh hs (h := h) (by omega) (A 2).toNat (by omega)
                                refine zt_callV [.ref (b + 1), .int (iz ((tz9 A E9 h (A 2).toNat : Nat) : Int))] [.int (iz ((h : Nat) : Int)), .ref (b + 31)] C K (cw_at 30 rfl) rfl (k_X10_leastString_wb l A (sA (sA (sA (sA (sA (sA τ 18 Y) 31 S9) 32 E9) 33 K9) 34 (ow9 A (τ 34) (A 1).toNat)) 35 P9) (tz9 A E9 h (A 2).toNat) hA (by repeat (first | exact hR | refine rl_sA (by decide) ?_)) hc hwi ztz hOO hK9i) ck_X10_74 (by decide) ⟨Nat.zero_le _, Nat.zero_le _⟩ rfl (Nat.le_of_ble_eq_true rfl) dX10_lay_146 ?_
                                refine hv_as ((wqN A K9 (ow9 A (τ 34) (A 1).toNat) P9 (tz9 A E9 h (A 2).toNat))) rfl ?_
                                refine zt_st (τ2 := sA (sA (sA (sA (sA (sA τ 18 Y) 31 S9) 32 E9) 33 K9) 34 (ow9 A (τ 34) (A 1).toNat)) 35 (wqL A K9 (ow9 A (τ 34) (A 1).toNat) P9 (tz9 A E9 h (A 2).toNat) (2 ^ (A 0).toNat - (tz9 A E9 h (A 2).toNat))).1) (by first | rfl | (funext j9; by_cases hj18 : j9 = 18; (subst hj18; first | rfl | exact ua_ua | (funext i9; simp only [sA, ua]; (repeat' split) <;> first | rfl | (exfalso; omega) | (subst_vars; rfl))); by_cases hj31 : j9 = 31; (subst hj31; first | rfl | exact ua_ua | (funext i9; simp only [sA, ua]; (repeat' split) <;> first | rfl | (exfalso; omega) | (subst_vars; rfl))); by_cases hj32 : j9 = 32; (subst hj32; first | rfl | exact ua_ua | (funext i9; simp only [sA, ua]; (repeat' split) <;> first | rfl | (exfalso; omega) | (subst_vars; rfl))); by_cases hj33 : j9 = 33; (subst hj33; first | rfl | exact ua_ua | (funext i9; simp only [sA, ua]; (repeat' split) <;> first | rfl | (exfalso; omega) | (subst_vars; rfl))); by_cases hj34 : j9 = 34; (subst hj34; first | rfl | exact ua_ua | (funext i9; simp only [sA, ua]; (repeat' split) <;> first | rfl | (exfalso; omega) | (subst_vars; rfl))); by_cases hj35 : j9 = 35; (subst hj35; first | rfl | exact ua_ua | (funext i9; simp only [sA, ua]; (repeat' split) <;> first | rfl | (exfalso; omega) | (subst_vars; rfl))); simp only [sA, if_neg hj18, if_neg hj31, if_neg hj32, if_neg hj33, if_neg hj34, if_neg hj35])) ?_
                                refine hv_nm (fun x5 ex5 => ?_)
                                have zN : -1 ≤ x5 ∧ x5 ≤ 4095 := by rw [ex5]; exact wqN_r hwi (by omega) hOO _ _
                                have zNe := ex5
                                refine zc_iast C K (f := S9) h (cw_at 31 rfl) (cw_set 31 h x5 rfl) (by omega) (by omega) (by decide) dX10_lay_149 ?_
                                refine zt_st (τ2 := sA (sA (sA (sA (sA (sA τ 18 Y) 31 (ua S9 h x5)) 32 E9) 33 K9) 34 (ow9 A (τ 34) (A 1).toNat)) 35 (wqL A K9 (ow9 A (τ 34) (A 1).toNat) P9 (tz9 A E9 h (A 2).toNat) (2 ^ (A 0).toNat - (tz9 A E9 h (A 2).toNat))).1) (by rw [u2_sA, sA_comm (j := 35) (k := 31) (by decide), sA_comm (j := 34) (k := 31) (by decide), sA_comm (j := 33) (k := 31) (by decide), sA_comm (j := 32) (k := 31) (by decide), sA_sA]; first | done | rfl) ?_
                                refine hv_aload_n C 0 1 dX10_lay_150 rfl rfl ?_
                                refine hv_aload_n C 0 1 dX10_lay_151 rfl rfl ?_
                                refine zc_get C K (v := .ref (b + 31)) 0 rfl hu_11 (by decide) (cw_at 30 rfl) rfl fl_X10_9 rfl dX10_lay_152 ?_
                                refine hv_iload_n C 3 4 dX10_lay_155 rfl rfl ?_
                                refine zc_iald C K (f := (ua S9 h x5)) h (cw_at 31 rfl) (by omega) (by omega) (by decide) dX10_lay_156 ?_
                                refine hv_nm (fun x6 ex6 => ?_)
                                refine hv_as (x5) (by rw [ex6, ua_at]) ?_
                                refine zt_callV [.int (iz x5)] [] C K (cw_at 30 rfl) rfl (k_X10_takeCircuits_wb l  (sA (sA (sA (sA (sA (sA τ 18 Y) 31 (ua S9 h x5)) 32 E9) 33 K9) 34 (ow9 A (τ 34) (A 1).toNat)) 35 (wqL A K9 (ow9 A (τ 34) (A 1).toNat) P9 (tz9 A E9 h (A 2).toNat) (2 ^ (A 0).toNat - (tz9 A E9 h (A 2).toNat))).1) x5 zN) ck_X10_77 (by decide) ⟨Nat.zero_le _, Nat.zero_le _⟩ rfl (Nat.le_of_ble_eq_true rfl) dX10_lay_157 ?_
                                refine zt_st (τ2 := sA (sA (sA (sA (sA (sA τ 18 Y) 31 (ua S9 h x5)) 32 E9) 33 (if x5 = -1 then K9 else tc9 K9 x5 12)) 34 (ow9 A (τ 34) (A 1).toNat)) 35 (wqL A K9 (ow9 A (τ 34) (A 1).toNat) P9 (tz9 A E9 h (A 2).toNat) (2 ^ (A 0).toNat - (tz9 A E9 h (A 2).toNat))).1) (by first | rfl | (funext j9; by_cases hj18 : j9 = 18; (subst hj18; first | rfl | exact ua_ua | (funext i9; simp only [sA, ua]; (repeat' split) <;> first | rfl | (exfalso; omega) | (subst_vars; rfl))); by_cases hj31 : j9 = 31; (subst hj31; first | rfl | exact ua_ua | (funext i9; simp only [sA, ua]; (repeat' split) <;> first | rfl | (exfalso; omega) | (subst_vars; rfl))); by_cases hj32 : j9 = 32; (subst hj32; first | rfl | exact ua_ua | (funext i9; simp only [sA, ua]; (repeat' split) <;> first | rfl | (exfalso; omega) | (subst_vars; rfl))); by_cases hj33 : j9 = 33; (subst hj33; first | rfl | exact ua_ua | (funext i9; simp only [sA, ua]; (repeat' split) <;> first | rfl | (exfalso; omega) | (subst_vars; rfl))); by_cases hj34 : j9 = 34; (subst hj34; first | rfl | exact ua_ua | (funext i9; simp only [sA, ua]; (repeat' split) <;> first | rfl | (exfalso; omega) | (subst_vars; rfl))); by_cases hj35 : j9 = 35; (subst hj35; first | rfl | exact ua_ua | (funext i9; simp only [sA, ua]; (repeat' split) <;> first | rfl | (exfalso; omega) | (subst_vars; rfl))); simp only [sA, if_neg hj18, if_neg hj31, if_neg hj32, if_neg hj33, if_neg hj34, if_neg hj35])) ?_
                                refine hv_iinc C 3 4 [(3, .int (iz (((h : Nat) : Int) + 1))), (4, .ref p3), (0, .ref (b + 30)), (1, .ref (b + 1)), (2, .int (iz pl))] dX10_lay_160 rfl (by decide) rfl ?_
                                refine hv_goto C 88 dX10_lay_163 (by decide) ?_
                                refine hv_loc [2, 3, 4, 0] [(0, .ref (b + 30)), (1, .ref (b + 1)), (2, .int (iz pl)), (3, .int (iz (((h : Nat) : Int) + 1)))] rfl ?_
                                exact ih88 (h + 1) (ua S9 h x5) (if x5 = -1 then K9 else tc9 K9 x5 12) (wqL A K9 (ow9 A (τ 34) (A 1).toNat) P9 (tz9 A E9 h (A 2).toNat) (2 ^ (A 0).toNat - (tz9 A E9 h (A 2).toNat))).1 Y (by omega) (by omega) (by first | exact lyH_n hH (by omega) | exact lyH_y hH zNe (by omega) (by omega)) (by first | exact (fun i z => by have z2 := hK9 i z; omega) | (intro i z; have z2 := hK9 i z; split; omega; exact ⟨(tc9_r hK9 12 i z).1, Int.le_trans (tc9_r hK9 12 i z).2 (by omega)⟩))
                      refine hv_loc [1, 2, 3, 0] [(0, .ref (b + 30)), (1, .ref (b + 1)), (2, .int (iz pl)), (3, .int (iz 0))] rfl ?_
                      refine zt_st (τ2 := sA (sA (sA (sA (sA (sA τ 18 X) 31 S1) 32 E9) 33 K1) 34 (ow9 A (τ 34) (A 1).toNat)) 35 (τ 35)) ((sA_id (sA (sA (sA (sA (sA τ 18 X) 31 S1) 32 E9) 33 K1) 34 (ow9 A (τ 34) (A 1).toNat)) 35).symm) ?_
                      exact L88 _ 0 S1 K1 (τ 35) X (Nat.lt_succ_self _) (by omega) rfl (fun i z => by rw [hK1, show v = 12 by omega, zt_0 _ 12 i z]; omega)
                    · skip
                      refine hv_aload_n C 0 0 dX10_lay_68 rfl rfl ?_
                      refine zc_get C K (v := .ref (b + 32)) 1 rfl hu_11 (by decide) (cw_at 30 rfl) rfl fl_X10_15 rfl dX10_lay_69 ?_
                      refine hv_iload_n C 3 3 dX10_lay_72 rfl rfl ?_
                      refine hv_aload_n C 1 1 dX10_lay_73 rfl rfl ?_
                      refine hv_iload_n C 3 3 dX10_lay_74 rfl rfl ?_
                      refine hv_iload_n C 2 2 dX10_lay_75 rfl rfl ?_
                      refine zx_callV [.int (iz ((s9 : Nat) : Int)), .int (iz pl)] [.int (iz ((s9 : Nat) : Int)), .ref (b + 32)] C K (cw_at 1 rfl) rfl (k_X8_sentAt l A (pl / 48) (pl % 48) (sA (sA (sA (sA (sA τ 18 X) 31 S1) 32 E9) 33 K1) 34 (ow9 A (τ 34) (A 1).toNat)) s9 pl hA (by repeat (first | exact hR | refine rl_sA (by decide) ?_)) hs hh hl hlj hc hm hb (by omega) (by omega)) ck_X10_47 (by decide) ⟨Nat.zero_le _, Nat.zero_le _⟩ rfl (Nat.le_of_ble_eq_true rfl) dX10_lay_76 (fun X7 => ?_)
                      refine hv_as ((sd A s9 (pl / 48) (pl % 48))) rfl ?_
                      refine zt_st (τ2 := sA (sA (sA (sA (sA τ 18 X7) 31 S1) 32 E9) 33 K1) 34 (ow9 A (τ 34) (A 1).toNat)) (by rw [sA_comm (j := 34) (k := 18) (by decide), sA_comm (j := 33) (k := 18) (by decide), sA_comm (j := 32) (k := 18) (by decide), sA_comm (j := 31) (k := 18) (by decide), sA_sA]) ?_
                      refine hv_nm (fun x8 ex8 => ?_)
                      have rx8 : inI x8 := by rw [ex8]; exact (by have z := sd_rng hc s9 (pl / 48) (pl % 48); exact ⟨by omega, by omega⟩)
                      refine zc_iast C K (f := E9) s9 (cw_at 32 rfl) (cw_set 32 s9 x8 rfl) (by omega) (by omega) (by decide) dX10_lay_79 ?_
                      refine zt_st (τ2 := sA (sA (sA (sA (sA τ 18 X7) 31 S1) 32 (ua E9 s9 x8)) 33 K1) 34 (ow9 A (τ 34) (A 1).toNat)) (by rw [u2_sA, sA_comm (j := 34) (k := 32) (by decide), sA_comm (j := 33) (k := 32) (by decide), sA_sA]; first | done | rfl) ?_
                      refine hv_iinc C 3 3 [(3, .int (iz (((s9 : Nat) : Int) + 1))), (0, .ref (b + 30)), (1, .ref (b + 1)), (2, .int (iz pl))] dX10_lay_80 rfl (by decide) rfl ?_
                      refine hv_goto C 57 dX10_lay_83 (by decide) ?_
                      refine hv_loc [1, 2, 3, 0] [(0, .ref (b + 30)), (1, .ref (b + 1)), (2, .int (iz pl)), (3, .int (iz (((s9 : Nat) : Int) + 1)))] rfl ?_
                      exact ih57 (s9 + 1) (ua E9 s9 x8) X7 (by omega) (by omega) (by rw [lyE, ← hE9]; congr 1) (in_ua hEr (by assumption))
                refine hv_loc [1, 2, 3, 0] [(0, .ref (b + 30)), (1, .ref (b + 1)), (2, .int (iz pl)), (3, .int (iz 0))] rfl ?_
                refine zt_st (τ2 := sA (sA (sA (sA (sA τ 18 (τ 18)) 31 S1) 32 (nm9 (τ 32))) 33 K1) 34 (ow9 A (τ 34) (A 1).toNat)) ((sA_id (sA (sA (sA (sA τ 31 S1) 32 (nm9 (τ 32))) 33 K1) 34 (ow9 A (τ 34) (A 1).toNat)) 18).symm.trans (by rw [sA_comm (j := 34) (k := 18) (by decide), sA_comm (j := 33) (k := 18) (by decide), sA_comm (j := 32) (k := 18) (by decide), sA_comm (j := 31) (k := 18) (by decide)]; first | done | rfl)) ?_
                exact L57 _ 0 (nm9 (τ 32)) (τ 18) (Nat.lt_succ_self _) (by omega) rfl (nm9_in _)
              · skip
                refine hv_aload_n C 0 0 dX10_lay_37 rfl rfl ?_
                refine zc_get C K (v := .ref (b + 33)) 2 rfl hu_11 (by decide) (cw_at 30 rfl) rfl fl_X10_18 rfl dX10_lay_38 ?_
                refine hv_iload_n C 3 3 dX10_lay_41 rfl rfl ?_
                refine hv_iconst C dX10_lay_42 ?_
                refine zc_iast C K (f := K1) v (cw_at 33 rfl) (cw_set 33 v 0 rfl) (by omega) (by omega) (by decide) dX10_lay_43 ?_
                refine zt_st (τ2 := sA (sA τ 31 S1) 33 (ua K1 v 0)) (by rw [u2_sA, sA_sA]; first | done | rfl) ?_
                refine hv_iinc C 3 3 [(3, .int (iz (((v : Nat) : Int) + 1))), (0, .ref (b + 30)), (1, .ref (b + 1)), (2, .int (iz pl))] dX10_lay_44 rfl (by decide) rfl ?_
                refine hv_goto C 31 dX10_lay_47 (by decide) ?_
                refine hv_loc [1, 2, 3, 0] [(0, .ref (b + 30)), (1, .ref (b + 1)), (2, .int (iz pl)), (3, .int (iz (((v : Nat) : Int) + 1)))] rfl ?_
                exact ih31 (v + 1) (ua K1 v 0) (by omega) (by omega) (by rw [hK1]; rfl)
          refine hv_loc [1, 2, 3, 0] [(0, .ref (b + 30)), (1, .ref (b + 1)), (2, .int (iz pl)), (3, .int (iz 0))] rfl ?_
          refine zt_st (τ2 := sA (sA τ 31 S1) 33 (τ 33)) ((sA_id (sA τ 31 S1) 33).symm) ?_
          exact L31 _ 0 (τ 33) (Nat.lt_succ_self _) (by omega) rfl
        · skip
          have zLS : lyS A pl (τ 31) (τ 32) (τ 33) (τ 34) (τ 35) = S1 := by unfold lyS; rw [if_neg (by omega), hS1, show k = 24 by omega]
          exact zs_vret C hr hlk ⟨(sA τ 31 S1), by rw [zLS]; first | rfl | (funext j9; by_cases hj18 : j9 = 18; (subst hj18; rfl); by_cases hj31 : j9 = 31; (subst hj31; rfl); by_cases hj32 : j9 = 32; (subst hj32; rfl); by_cases hj33 : j9 = 33; (subst hj33; rfl); by_cases hj34 : j9 = 34; (subst hj34; rfl); by_cases hj35 : j9 = 35; (subst hj35; rfl); simp only [sA, if_neg hj18, if_neg hj31, if_neg hj32, if_neg hj33, if_neg hj34, if_neg hj35])⟩ dX10_lay_28
      · skip
        refine hv_aload_n C 0 0 dX10_lay_8 rfl rfl ?_
        refine zc_get C K (v := .ref (b + 31)) 0 rfl hu_11 (by decide) (cw_at 30 rfl) rfl fl_X10_9 rfl dX10_lay_9 ?_
        refine hv_iload_n C 3 3 dX10_lay_12 rfl rfl ?_
        refine hv_iconst C dX10_lay_13 ?_
        refine zc_iast C K (f := S1) k (cw_at 31 rfl) (cw_set 31 k (-1) rfl) (by omega) (by omega) (by decide) dX10_lay_14 ?_
        refine zt_st (τ2 := sA τ 31 (ua S1 k (-1))) (by rw [u2_sA, sA_sA]; first | done | rfl) ?_
        refine hv_iinc C 3 3 [(3, .int (iz (((k : Nat) : Int) + 1))), (0, .ref (b + 30)), (1, .ref (b + 1)), (2, .int (iz pl))] dX10_lay_15 rfl (by decide) rfl ?_
        refine hv_goto C 2 dX10_lay_18 (by decide) ?_
        refine hv_loc [1, 2, 3, 0] [(0, .ref (b + 30)), (1, .ref (b + 1)), (2, .int (iz pl)), (3, .int (iz (((k : Nat) : Int) + 1)))] rfl ?_
        exact ih2 (k + 1) (ua S1 k (-1)) (by omega) (by omega) (by rw [hS1]; rfl)
  refine hv_loc [1, 2, 3, 0] [(0, .ref (b + 30)), (1, .ref (b + 1)), (2, .int (iz pl)), (3, .int (iz 0))] rfl ?_
  refine zt_st (τ2 := sA τ 31 (τ 31)) ((sA_id τ 31).symm) ?_
  exact L2 _ 0 (τ 31) (Nat.lt_succ_self _) (by omega) rfl
