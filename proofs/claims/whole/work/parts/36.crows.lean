theorem fid9 (τ : Nat → Nat → Int) (j f : Nat) {v : Int} (h : τ j f = v) : τ = sA τ j (ua (τ j) f v) := by
  funext x y
  by_cases e : x = j
  · subst e
    show τ x y = (if x = x then ua (τ x) f v else τ x) y
    rw [if_pos rfl]
    unfold ua
    split
    · next h2 => rw [h2, h]
    · rfl
  · show τ x y = (if x = j then ua (τ j) f v else τ x) y
    rw [if_neg e]
/-- the sign of a bitwise 'or else' -/
def xo9 (a b : Int) : Int := (iz a ^^^ iz b).toInt
theorem xo9_in (a b : Int) : inI (xo9 a b) := inI_toInt _
theorem xo9_sign {a b : Int} (ha : inI a) (hb : inI b) : 0 ≤ xo9 a b ↔ (0 ≤ a ↔ 0 ≤ b) := by
  have k : ∀ x : Int32, 0 ≤ x.toInt ↔ x.toBitVec.msb = false := by
    intro x
    rw [show x.toInt = x.toBitVec.toInt from rfl, BitVec.msb_eq_toInt]
    simp
  unfold xo9
  rw [k, Int32.toBitVec_xor, BitVec.msb_xor, ← iz_toInt ha, ← iz_toInt hb, k, k]
  rw [iz_toInt ha, iz_toInt hb]
  cases (iz a).toBitVec.msb <;> cases (iz b).toBitVec.msb <;> simp
theorem iz_tdiv {x y : Int} (hx : inI x) (hy : 0 < y) (hy2 : y ≤ 2147483647) : iz x / iz y = iz (Int.tdiv x y) := by
  apply Int32.toInt_inj.1
  have hne : iz y ≠ -1 := by
    intro h
    have h2 : (iz y).toInt = (iz (-1)).toInt := congrArg Int32.toInt h
    rw [iz_toInt ⟨by omega, hy2⟩, iz_toInt ⟨by omega, by omega⟩] at h2
    omega
  have h5 : inI (x.tdiv y) := by
    by_cases h0 : 0 ≤ x
    · have h1 : x.tdiv y = x / y := Int.tdiv_eq_ediv_of_nonneg h0
      have h3 : 0 ≤ x.tdiv y := by rw [h1]; exact Int.ediv_nonneg h0 (by omega)
      have h4 : x.tdiv y ≤ x := by rw [h1]; exact Int.ediv_le_self y h0
      exact ⟨by omega, by omega⟩
    · have h1 : (-x).tdiv y = (-x) / y := Int.tdiv_eq_ediv_of_nonneg (by omega)
      rw [Int.neg_tdiv] at h1
      have h3 : 0 ≤ (-x) / y := Int.ediv_nonneg (by omega) (by omega)
      have h4 : (-x) / y ≤ -x := Int.ediv_le_self y (by omega)
      exact ⟨by omega, by omega⟩
  rw [Int32.toInt_div_of_ne_right _ _ hne, iz_toInt hx, iz_toInt ⟨by omega, hy2⟩, iz_toInt h5]
theorem iz_tmod {x y : Int} (hx : inI x) (hy : 0 < y) (hy2 : y ≤ 2147483647) : iz x - iz x / iz y * iz y = iz (Int.tmod x y) := by
  rw [iz_tdiv hx hy hy2, iz_mul, iz_sub]
  congr 1
  have := Int.tmod_add_mul_tdiv x y
  rw [Int.mul_comm (x.tdiv y) y]
  omega
/-- a number's low byte, with its sign -/
def sb9 (x : Int) : Int := (iz x).toInt8.toInt32.toInt
section HV5
variable {p : Program} {l : Launch} {e : Env} {R : Room} {s : State} {m : MethodId} {args : Array Value} {below : List Frame} {meth : Method} {c : Code} {nL : Nat} {FR : Nat → Prop} {cells slots : Nat} {Q : State → Prop} {HI : Heap → Prop} {pc : Nat} {loc : List (Nat × Value)} {stk : List Value} {cc : ByteArray} {own : String}
theorem hv_ixorq (C : CallFix p m c cc nL s args hk_tb own) {x y : Int} (d : decode cc pc = .ok (.ixor, 1)) (k : hvV p l e R s m args below meth c nL FR cells slots Q HI (pc + 1) loc (.int (iz (xo9 x y)) :: stk)) : hvV p l e R s m args below meth c nL FR cells slots Q HI pc loc (.int (iz y) :: .int (iz x) :: stk) := fun H locs ls h1 h2 h3 => lv_ixor C.1 C.2.1 d (by unfold xo9 at k; rw [iz_of] at k; exact k H locs ls h1 h2 h3)
theorem hv_idivT (C : CallFix p m c cc nL s args hk_tb own) {x y : Int} (hx : inI x) (hy : 0 < y) (hy2 : y ≤ 2147483647) (d : decode cc pc = .ok (.idiv, 1)) (k : hvV p l e R s m args below meth c nL FR cells slots Q HI (pc + 1) loc (.int (iz (Int.tdiv x y)) :: stk)) : hvV p l e R s m args below meth c nL FR cells slots Q HI pc loc (.int (iz y) :: .int (iz x) :: stk) := fun H locs ls h1 h2 h3 => lv_idiv C.1 C.2.1 d (iz_ne0 hy hy2) (by rw [iz_tdiv hx hy hy2]; exact k H locs ls h1 h2 h3)
theorem hv_iremT (C : CallFix p m c cc nL s args hk_tb own) {x y : Int} (hx : inI x) (hy : 0 < y) (hy2 : y ≤ 2147483647) (d : decode cc pc = .ok (.irem, 1)) (k : hvV p l e R s m args below meth c nL FR cells slots Q HI (pc + 1) loc (.int (iz (Int.tmod x y)) :: stk)) : hvV p l e R s m args below meth c nL FR cells slots Q HI pc loc (.int (iz y) :: .int (iz x) :: stk) := fun H locs ls h1 h2 h3 => lv_irem C.1 C.2.1 d (iz_ne0 hy hy2) (by rw [iz_tmod hx hy hy2]; exact k H locs ls h1 h2 h3)
theorem hv_i2b (C : CallFix p m c cc nL s args hk_tb own) {x : Int} (d : decode cc pc = .ok (.i2b, 1)) (k : hvV p l e R s m args below meth c nL FR cells slots Q HI (pc + 1) loc (.int (iz (sb9 x)) :: stk)) : hvV p l e R s m args below meth c nL FR cells slots Q HI pc loc (.int (iz x) :: stk) := fun H locs ls h1 h2 h3 => lv_i2b C.1 C.2.1 d (by unfold sb9; rw [iz_of]) (k H locs ls h1 h2 h3)
theorem hv_dupx1 (C : CallFix p m c cc nL s args hk_tb own) {va vb : Value} (d : decode cc pc = .ok (.dup_x1, 1)) (h : va.category = 1) (h' : vb.category = 1) (k : hvV p l e R s m args below meth c nL FR cells slots Q HI (pc + 1) loc (va :: vb :: va :: stk)) : hvV p l e R s m args below meth c nL FR cells slots Q HI pc loc (va :: vb :: stk) := fun H locs ls h1 h2 h3 => lv_dup_x1 C.1 C.2.1 d h h' (k H locs ls h1 h2 h3)
theorem zc_cast {D : va_G} {ar : Nat → ClassId} {B : Nat → Prop} {w : zcW} {n : Nat} {H0 : Heap} (C : CallFix p m c cc nL s args hk_tb own) (K : clK D ar s) {a ci idx : Nat} {fs : List Value} {q : vw_C} (hw : w a = some (.inr (ci, fs))) (hc : vwCl[ci]? = some q) (hl : Cond.classLink own idx q.1 ∈ hk_tb) (d : decode cc pc = .ok (.checkcast idx, 3)) (k : hvV p l e R s m args below meth c nL B cells slots Q (zc_I D B w n H0) (pc + 3) loc (.ref a :: stk)) : hvV p l e R s m args below meth c nL B cells slots Q (zc_I D B w n H0) pc loc (.ref a :: stk) := fun H locs ls h1 h2 h3 => va_castS C.1 C.2.1 C.2.2.2.1 (C.2.2.2.2 _ hl) (K.1.1 ci q hc).2 (va_recv K.1 (zc_1 h1.1 hw) (q0 := 0) hc rfl) d (k H locs ls h1 h2 h3)
end HV5
/-! what the class's cells hold, against the state A -/
def rlL (ar : Nat → ClassId) (b : Nat) (w0 : zcW) (t : Nat → Int) (N : Int) (ci : Nat) (fs : Nat → List Value) : Prop := t 2 = N ∧ ∀ i : Nat, (i : Int) < N → ∃ p, it9q ar b w0 t i p ∧ ob9 b w0 p ci (fs i)
def fWire (A : Nat → Int) (i : Nat) : List Value := [.int (iz (A (30 + 4 * i + 0))), .int (iz (A (30 + 4 * i + 1))), .int (iz (A (30 + 4 * i + 2))), .int (iz (A (30 + 4 * i + 3)))]
def fStat (A : Nat → Int) (i : Nat) : List Value := [.int (iz (A (80 + 4 * i + 0))), .int (iz (A (80 + 4 * i + 1))), .int (iz (A (80 + 4 * i + 2)))]
def fMemb (A : Nat → Int) (i : Nat) : List Value := [.int (iz (A (120 + 4 * i + 0))), .int (iz (A (120 + 4 * i + 1))), .int (iz (A (120 + 4 * i + 2))), .int (iz (A (120 + 4 * i + 3)))]
def fHour (A : Nat → Int) (i : Nat) : List Value := [.int (iz (A (280 + 8 * i + 0))), .int (iz (48 * A (280 + 8 * i + 1) + A (280 + 8 * i + 2))), .int (iz (A (280 + 8 * i + 3))), .int (iz (A (280 + 8 * i + 4))), .int (iz (A (280 + 8 * i + 5))), .int (iz (A (280 + 8 * i + 6))), .int (iz (A (280 + 8 * i + 7)))]
def fBrk (A : Nat → Int) (i : Nat) : List Value := [.int (iz (A (480 + 6 * i + 0))), .int (iz (48 * A (480 + 6 * i + 1) + A (480 + 6 * i + 2))), .int (iz (48 * A (480 + 6 * i + 1) + A (480 + 6 * i + 3))), .int (iz (A (480 + 6 * i + 4))), .int (iz (A (480 + 6 * i + 5)))]
def deed (A : Nat → Int) (row : Nat) : Int := if A (row + 17) = 20 then -1 else if A (row + 17) = 21 then -2 else A (row + 18)
def sgn9 (x : Int) : Int := if x = 60 then -1 else if x = 62 then 1 else 0
/-- a contract of the class holds what the network's rows say -/
def rlC (ar : Nat → ClassId) (b : Nat) (w0 : zcW) (A : Nat → Int) (k p : Nat) : Prop := ∃ (pd pc pt : Nat) (fd fc ft : Nat → Int), ob9 b w0 p 2 [.int (iz (A (14 + k))), .ref pd, .ref pc, .ref pt] ∧ ia9 ar b w0 pd 16 fd ∧ ia9 ar b w0 pc 16 fc ∧ ia9 ar b w0 pt 256 ft ∧ ∀ x : Nat, (x : Int) < A (14 + k) → fd x = deed A (800 + 320 * k + 20 * x) ∧ fc x = A (800 + 320 * k + 20 * x) ∧ ∀ t : Nat, (t : Int) < A (800 + 320 * k + 20 * x) → ft (16 * x + 4 * t + 0) = A (800 + 320 * k + 20 * x + 1 + 4 * t) ∧ ft (16 * x + 4 * t + 1) = A (800 + 320 * k + 20 * x + 1 + 4 * t + 1) - 1 ∧ ft (16 * x + 4 * t + 2) = sgn9 (A (800 + 320 * k + 20 * x + 1 + 4 * t + 2)) ∧ ft (16 * x + 4 * t + 3) = A (800 + 320 * k + 20 * x + 1 + 4 * t + 3)
def rlI (A t1 : Nat → Int) (e : Int) : Prop := t1 0 = A 0 ∧ t1 8 = A 8 ∧ t1 9 = A 9 ∧ t1 10 = A 13 ∧ t1 12 = A 10 ∧ t1 13 = A 11 ∧ t1 14 = A 12 ∧ t1 16 = A 6 ∧ e = A 7
def rlF (ar : Nat → ClassId) (b : Nat) (w0 : zcW) (A t1 t2 t3 t4 t5 t6 t7 t8 t9 t10 t11 : Nat → Int) (e : Int) (t13 t14 : Nat → Int) : Prop :=
  rlI A t1 e ∧ rlL ar b w0 t2 (A 1) 10 (fWire A) ∧ rlL ar b w0 t3 (A 2) 8 (fStat A) ∧ rlL ar b w0 t6 (A 3) 5 (fMemb A) ∧ rlL ar b w0 t7 (A 4) 4 (fHour A) ∧ rlL ar b w0 t8 (A 5) 1 (fBrk A) ∧
  (∀ i : Nat, i < 8 → t4 i = if (i : Int) < A 2 then A (80 + 4 * i + 3) else 0) ∧
  (∀ z : Nat, z < 4 → (inI (t5 (2 * z)) ∧ inI (t5 (2 * z + 1))) ∧ ∀ d : Int, (t5 (2 * z) ≤ d ∧ d ≤ t5 (2 * z + 1)) ↔ (A (20 + 2 * z) ≤ d ∧ d ≤ A (20 + 2 * z + 1))) ∧
  (∀ i : Nat, (i : Int) < A 10 → t9 i = sb9 (A (1760 + i))) ∧
  (∀ k : Nat, k < 3 → ∃ p : Nat, t10 k = (p : Int) ∧ rlC ar b w0 A k p) ∧
  (∀ k q : Nat, (k : Int) < A 6 → q < 3 → t11 (3 * k + q) = A (630 + 3 * k + q)) ∧
  (∀ k : Nat, (k : Int) < A 7 → t13 k = A (750 + 7 * k)) ∧
  (∀ k t : Nat, k < 6 → t < 6 → t14 (6 * k + t) = if (k : Int) < A 7 then A (750 + 7 * k + 1 + t) else 0)
def Rel9 (ar : Nat → ClassId) (b : Nat) (w0 : zcW) (A : Nat → Int) (τ : Nat → Nat → Int) : Prop := rlF ar b w0 A (τ 1) (τ 2) (τ 3) (τ 4) (τ 5) (τ 6) (τ 7) (τ 8) (τ 9) (τ 10) (τ 11) (τ 12 0) (τ 13) (τ 14)
theorem rl_sA {ar : Nat → ClassId} {b : Nat} {w0 : zcW} {A : Nat → Int} {τ : Nat → Nat → Int} {j : Nat} {X : Nat → Int} (hj : 15 ≤ j) (h : Rel9 ar b w0 A τ) : Rel9 ar b w0 A (sA τ j X) := by
  unfold Rel9
  rw [sA_ne (k := 1) _ _ (by omega), sA_ne (k := 2) _ _ (by omega), sA_ne (k := 3) _ _ (by omega), sA_ne (k := 4) _ _ (by omega), sA_ne (k := 5) _ _ (by omega), sA_ne (k := 6) _ _ (by omega), sA_ne (k := 7) _ _ (by omega), sA_ne (k := 8) _ _ (by omega), sA_ne (k := 9) _ _ (by omega), sA_ne (k := 10) _ _ (by omega), sA_ne (k := 11) _ _ (by omega), sA_ne (k := 12) _ _ (by omega), sA_ne (k := 13) _ _ (by omega), sA_ne (k := 14) _ _ (by omega)]
  exact h
section RL
variable {ar : Nat → ClassId} {b : Nat} {w0 : zcW} {A : Nat → Int} {τ : Nat → Nat → Int}
theorem Rel9.i (h : Rel9 ar b w0 A τ) : rlI A (τ 1) (τ 12 0) := h.1
theorem Rel9.l2 (h : Rel9 ar b w0 A τ) : rlL ar b w0 (τ 2) (A 1) 10 (fWire A) := h.2.1
theorem Rel9.l3 (h : Rel9 ar b w0 A τ) : rlL ar b w0 (τ 3) (A 2) 8 (fStat A) := h.2.2.1
theorem Rel9.l6 (h : Rel9 ar b w0 A τ) : rlL ar b w0 (τ 6) (A 3) 5 (fMemb A) := h.2.2.2.1
theorem Rel9.l7 (h : Rel9 ar b w0 A τ) : rlL ar b w0 (τ 7) (A 4) 4 (fHour A) := h.2.2.2.2.1
theorem Rel9.l8 (h : Rel9 ar b w0 A τ) : rlL ar b w0 (τ 8) (A 5) 1 (fBrk A) := h.2.2.2.2.2.1
theorem Rel9.own (h : Rel9 ar b w0 A τ) : ∀ i : Nat, i < 8 → τ 4 i = if (i : Int) < A 2 then A (80 + 4 * i + 3) else 0 := h.2.2.2.2.2.2.1
theorem Rel9.sum (h : Rel9 ar b w0 A τ) : ∀ z : Nat, z < 4 → (inI (τ 5 (2 * z)) ∧ inI (τ 5 (2 * z + 1))) ∧ ∀ d : Int, (τ 5 (2 * z) ≤ d ∧ d ≤ τ 5 (2 * z + 1)) ↔ (A (20 + 2 * z) ≤ d ∧ d ≤ A (20 + 2 * z + 1)) := h.2.2.2.2.2.2.2.1
theorem Rel9.tape (h : Rel9 ar b w0 A τ) : ∀ i : Nat, (i : Int) < A 10 → τ 9 i = sb9 (A (1760 + i)) := h.2.2.2.2.2.2.2.2.1
theorem Rel9.con (h : Rel9 ar b w0 A τ) : ∀ k : Nat, k < 3 → ∃ p : Nat, τ 10 k = (p : Int) ∧ rlC ar b w0 A k p := h.2.2.2.2.2.2.2.2.2.1
theorem Rel9.calls (h : Rel9 ar b w0 A τ) : ∀ k q : Nat, (k : Int) < A 6 → q < 3 → τ 11 (3 * k + q) = A (630 + 3 * k + q) := h.2.2.2.2.2.2.2.2.2.2.1
theorem Rel9.sorts (h : Rel9 ar b w0 A τ) : ∀ k : Nat, (k : Int) < A 7 → τ 13 k = A (750 + 7 * k) := h.2.2.2.2.2.2.2.2.2.2.2.1
theorem Rel9.worths (h : Rel9 ar b w0 A τ) : ∀ k t : Nat, k < 6 → t < 6 → τ 14 (6 * k + t) = if (k : Int) < A 7 then A (750 + 7 * k + 1 + t) else 0 := h.2.2.2.2.2.2.2.2.2.2.2.2
end RL

