/-! the class's own cells -/
def rfv (z : Int) : Option Nat := if z < 0 then none else some z.toNat
theorem rfv_n (p : Nat) : rfv (p : Int) = some p := by unfold rfv; rw [if_neg (by omega), Int.toNat_natCast]
def gcell (ar : Nat → ClassId) (b : Nat) (t : Nat → Int) : Nat → Option va_E
  | 0 => some (.inr (12, [.ref (b + 1), .ref (b + 23), .ref (b + 24), .ref (b + 30), .ref (b + 36), .ref (b + 44)]))
  | 1 => some (.inr (9, [.int (iz (t 0)), .ref (b + 2), .ref (b + 3), .ref (b + 4), .ref (b + 5), .ref (b + 6), .ref (b + 7), .ref (b + 8), .int (iz (t 8)), .int (iz (t 9)), .int (iz (t 10)), .ref (b + 9), .int (iz (t 12)), .int (iz (t 13)), .int (iz (t 14)), .ref (b + 10), .int (iz (t 16)), .ref (b + 11), .ref (b + 12), .ref (b + 18)]))
  | 2 => some (.inr (0, [.int (iz (t 0)), va_rf (rfv (t 1)), .int (iz (t 2))]))
  | 3 => some (.inr (0, [.int (iz (t 0)), va_rf (rfv (t 1)), .int (iz (t 2))]))
  | 4 => some (.inl (ar 0, 8, .inl (fun q => iz (t q))))
  | 5 => some (.inl (ar 0, 8, .inl (fun q => iz (t q))))
  | 6 => some (.inr (0, [.int (iz (t 0)), va_rf (rfv (t 1)), .int (iz (t 2))]))
  | 7 => some (.inr (0, [.int (iz (t 0)), va_rf (rfv (t 1)), .int (iz (t 2))]))
  | 8 => some (.inr (0, [.int (iz (t 0)), va_rf (rfv (t 1)), .int (iz (t 2))]))
  | 9 => some (.inl (ar 1, 500, .inl (fun q => iz (t q))))
  | 10 => some (.inl (ar 3, 3, .inr (.inr (.inr (.inr (fun q => rfv (t q)))))))
  | 11 => some (.inl (ar 0, 120, .inl (fun q => iz (t q))))
  | 12 => some (.inr (3, [.int (iz (t 0)), .ref (b + 13), .ref (b + 14), .int (iz (t 3)), .ref (b + 15), .ref (b + 16), .ref (b + 17)]))
  | 13 => some (.inl (ar 0, 6, .inl (fun q => iz (t q))))
  | 14 => some (.inl (ar 0, 36, .inl (fun q => iz (t q))))
  | 15 => some (.inl (ar 0, 6, .inl (fun q => iz (t q))))
  | 16 => some (.inl (ar 0, 6, .inl (fun q => iz (t q))))
  | 17 => some (.inl (ar 0, 7, .inl (fun q => iz (t q))))
  | 18 => some (.inl (ar 0, 9, .inl (fun q => iz (t q))))
  | 23 => some (.inl (ar 4, 3, .inr (.inr (.inr (.inr (fun q => rfv (t q)))))))
  | 24 => some (.inr (11, [.ref (b + 25), .ref (b + 26), .ref (b + 27), .ref (b + 28), .ref (b + 29)]))
  | 25 => some (.inl (ar 0, 24, .inl (fun q => iz (t q))))
  | 26 => some (.inl (ar 0, 8, .inl (fun q => iz (t q))))
  | 27 => some (.inl (ar 0, 12, .inl (fun q => iz (t q))))
  | 28 => some (.inl (ar 0, 12, .inl (fun q => iz (t q))))
  | 29 => some (.inl (ar 0, 8, .inl (fun q => iz (t q))))
  | 30 => some (.inr (11, [.ref (b + 31), .ref (b + 32), .ref (b + 33), .ref (b + 34), .ref (b + 35)]))
  | 31 => some (.inl (ar 0, 24, .inl (fun q => iz (t q))))
  | 32 => some (.inl (ar 0, 8, .inl (fun q => iz (t q))))
  | 33 => some (.inl (ar 0, 12, .inl (fun q => iz (t q))))
  | 34 => some (.inl (ar 0, 12, .inl (fun q => iz (t q))))
  | 35 => some (.inl (ar 0, 8, .inl (fun q => iz (t q))))
  | 36 => some (.inr (7, [.int (iz (t 0)), .int (iz (t 1)), .ref (b + 37), .ref (b + 38), .ref (b + 39), .ref (b + 40), .ref (b + 41), .ref (b + 42), .ref (b + 43), .int (iz (t 9)), .int (iz (t 10)), .int (iz (t 11))]))
  | 37 => some (.inl (ar 0, 13, .inl (fun q => iz (t q))))
  | 38 => some (.inl (ar 0, 13, .inl (fun q => iz (t q))))
  | 39 => some (.inl (ar 0, 13, .inl (fun q => iz (t q))))
  | 40 => some (.inl (ar 0, 13, .inl (fun q => iz (t q))))
  | 41 => some (.inl (ar 0, 13, .inl (fun q => iz (t q))))
  | 42 => some (.inl (ar 0, 91, .inl (fun q => iz (t q))))
  | 43 => some (.inl (ar 0, 3, .inl (fun q => iz (t q))))
  | 44 => some (.inr (6, [.ref (b + 45), .ref (b + 46), .int (iz (t 2)), .int (iz (t 3)), .int (iz (t 4)), va_rf (rfv (t 5)), .int (iz (t 6)), .int (iz (t 7))]))
  | 45 => some (.inl (ar 0, 501, .inl (fun q => iz (t q))))
  | 46 => some (.inl (ar 0, 501, .inl (fun q => iz (t q))))
  | _ => none
def cw (ar : Nat → ClassId) (b : Nat) (τ : Nat → Nat → Int) (w0 : zcW) : zcW := fun a => if a < b then w0 a else (gcell ar b (τ (a - b)) (a - b)).or (w0 a)
/-- not one of the class's own cells -/
def nf9 (b p : Nat) : Prop := p < b ∨ (b + 19 ≤ p ∧ p < b + 23) ∨ b + 47 ≤ p
theorem gcell_none (ar : Nat → ClassId) (b : Nat) (t : Nat → Int) {j : Nat} (h : (19 ≤ j ∧ j < 23) ∨ 47 ≤ j) : gcell ar b t j = none := by
  unfold gcell
  split <;> first | rfl | omega
theorem cw_at {ar : Nat → ClassId} {b : Nat} {τ : Nat → Nat → Int} {w0 : zcW} (j : Nat) {x : va_E} (h : gcell ar b (τ j) j = some x) : cw ar b τ w0 (b + j) = some x := by
  unfold cw
  rw [if_neg (by omega), show b + j - b = j by omega, h]
  rfl
theorem cw_0 {ar : Nat → ClassId} {b : Nat} {τ : Nat → Nat → Int} {w0 : zcW} : cw ar b τ w0 b = some (.inr (12, [.ref (b + 1), .ref (b + 23), .ref (b + 24), .ref (b + 30), .ref (b + 36), .ref (b + 44)])) := cw_at 0 rfl
theorem cw_nf {ar : Nat → ClassId} {b : Nat} {τ : Nat → Nat → Int} {w0 : zcW} {p : Nat} (h : nf9 b p) : cw ar b τ w0 p = w0 p := by
  unfold cw
  by_cases q : p < b
  · rw [if_pos q]
  · rw [if_neg q, gcell_none ar b _ (by unfold nf9 at h; omega)]
    rfl
theorem cw_set {ar : Nat → ClassId} {b : Nat} {τ : Nat → Nat → Int} {w0 : zcW} (j i : Nat) (v : Int) {X : va_E} (h : gcell ar b (ua (τ j) i v) j = some X) : zc_u (cw ar b τ w0) (b + j) X = cw ar b (u2 τ j i v) w0 := by
  funext q
  unfold zc_u
  by_cases e : q = b + j
  · subst e
    rw [if_pos rfl]
    exact (cw_at (τ := u2 τ j i v) j (by rw [u2_sA, sA_at]; exact h)).symm
  · rw [if_neg e]
    unfold cw
    by_cases z : q < b
    · rw [if_pos z, if_pos z]
    · rw [if_neg z, if_neg z, u2_sA, sA_ne _ _ (by omega)]
/-- an object that is not one of the class's own cells -/
def ob9 (b : Nat) (w0 : zcW) (p ci : Nat) (fs : List Value) : Prop := nf9 b p ∧ w0 p = some (.inr (ci, fs))
theorem cw_ob {ar : Nat → ClassId} {b : Nat} {τ : Nat → Nat → Int} {w0 : zcW} {p ci : Nat} {fs : List Value} (h : ob9 b w0 p ci fs) : cw ar b τ w0 p = some (.inr (ci, fs)) := by rw [cw_nf h.1]; exact h.2
def ia9 (ar : Nat → ClassId) (b : Nat) (w0 : zcW) (p N : Nat) (f : Nat → Int) : Prop := nf9 b p ∧ w0 p = some (.inl (ar 0, N, .inl (fun q => iz (f q))))
theorem cw_ia {ar : Nat → ClassId} {b : Nat} {τ : Nat → Nat → Int} {w0 : zcW} {p N : Nat} {f : Nat → Int} (h : ia9 ar b w0 p N f) : cw ar b τ w0 p = some (.inl (ar 0, N, .inl (fun q => iz (f q)))) := by rw [cw_nf h.1]; exact h.2
/-- the i-th of a list -/
def it9q (ar : Nat → ClassId) (b : Nat) (w0 : zcW) (t : Nat → Int) (i p : Nat) : Prop := ∃ (e N : Nat) (f : Nat → Option Nat), t 1 = (e : Int) ∧ nf9 b e ∧ w0 e = some (.inl (ar 2, N, .inr (.inr (.inr (.inr f))))) ∧ i < N ∧ N ≤ 1000 ∧ f i = some p ∧ (i : Int) < t 2 ∧ t 2 ≤ 1000
def zt_M (l : Launch) (D : va_G) (ar : Nat → ClassId) (B : Nat → Prop) (b : Nat) (w0 : zcW) (n : Nat) (y : MethodName) (cc : ByteArray) (mL : Nat) (ret : Option FieldType) (fr lo : Nat) (as : List Value) (τ : Nat → Nat → Int) (r : Option Value) (τ' : Nat → Nat → Int) : Prop :=
  zc_M l D ar B y cc mL ret fr lo 0 0 as (cw ar b τ w0) n (fun r' w' n' => r' = r ∧ w' = cw ar b τ' w0 ∧ n' = n)
section ZT
variable {p : Program} {l : Launch} {e : Env} {R : Room} {s : State} {m : MethodId} {args : Array Value} {below : List Frame} {meth : Method} {c : Code} {nL : Nat} {Q : State → Prop} {pc : Nat} {loc : List (Nat × Value)} {stk : List Value} {cc : ByteArray} {D : va_G} {ar : Nat → ClassId} {B : Nat → Prop} {b n : Nat} {w0 : zcW} {τ : Nat → Nat → Int} {H0 : Heap} {own : String} {cells slots : Nat}
theorem zt_st {τ2 : Nat → Nat → Int} (h : τ = τ2) (k : hvV p l e R s m args below meth c nL B cells slots Q (zc_I D B (cw ar b τ2 w0) n H0) pc loc stk) : hvV p l e R s m args below meth c nL B cells slots Q (zc_I D B (cw ar b τ w0) n H0) pc loc stk := by rw [h]; exact k
theorem hv_asv {FR : Nat → Prop} {HI : Heap → Prop} {x : Value} (z : Value) (h : x = z) (k : hvV p l e R s m args below meth c nL FR cells slots Q HI pc loc (z :: stk)) : hvV p l e R s m args below meth c nL FR cells slots Q HI pc loc (x :: stk) := h ▸ k
theorem zt_callS {y : MethodName} {bytes : ByteArray} {maxL : Nat} {ret : Option FieldType} {fr lo idx : Nat} {r : Option Value} {τ2 : Nat → Nat → Int} (As rest : List Value) (C : CallFix p m c cc nL s args hk_tb own) (K : clK D ar s) (hM : zt_M l D ar B b w0 n y bytes maxL ret fr lo As τ r τ2) (ck : zcS own y bytes maxL ret idx As.length) (hR : fr + 1 ≤ R.frames ∧ 8 + (maxL + 11) + lo ≤ R.locals) (hf : cells ≤ R.cells ∧ slots ≤ R.slots) (hs : stk = As.reverse ++ rest) (hW : (rest.map fun v => v.category).sum ≤ 8) (d : decode cc pc = .ok (.invokestatic idx, 3)) (k : hvV p l e R s m args below meth c nL B cells slots Q (zc_I D B (cw ar b τ2 w0) n H0) (pc + 3) loc (r.toList ++ rest)) : hvV p l e R s m args below meth c nL B cells slots Q (zc_I D B (cw ar b τ w0) n H0) pc loc stk :=
  zc_callS As rest C K hM ck hR hf hs hW d (fun r' w' n' h => by obtain ⟨h1, h2, h3⟩ := h; subst h1; subst h2; subst h3; exact k)
theorem zt_callN {y : MethodName} {bytes : ByteArray} {maxL : Nat} {ret : Option FieldType} {fr lo idx : Nat} {host : String} {r : Option Value} {τ2 : Nat → Nat → Int} (As rest : List Value) (C : CallFix p m c cc nL s args hk_tb own) (K : clK D ar s) (hM : zt_M l D ar B b w0 n y bytes maxL ret fr lo As τ r τ2) (ck : zcN own host y bytes maxL ret idx As.length) (hR : fr + 1 ≤ R.frames ∧ 8 + (maxL + 11) + lo ≤ R.locals) (hf : cells ≤ R.cells ∧ slots ≤ R.slots) (hs : stk = As.reverse ++ rest) (hW : (rest.map fun v => v.category).sum ≤ 8) (d : decode cc pc = .ok (.invokestatic idx, 3)) (k : hvV p l e R s m args below meth c nL B cells slots Q (zc_I D B (cw ar b τ2 w0) n H0) (pc + 3) loc (r.toList ++ rest)) : hvV p l e R s m args below meth c nL B cells slots Q (zc_I D B (cw ar b τ w0) n H0) pc loc stk :=
  zc_callN As rest C K hM ck hR hf hs hW d (fun r' w' n' h => by obtain ⟨h1, h2, h3⟩ := h; subst h1; subst h2; subst h3; exact k)
theorem zt_callV {y : MethodName} {bytes : ByteArray} {maxL : Nat} {ret : Option FieldType} {fr lo idx a ci : Nat} {fs : List Value} {q : vw_C} {r : Option Value} {τ2 : Nat → Nat → Int} (As rest : List Value) (C : CallFix p m c cc nL s args hk_tb own) (K : clK D ar s) (hw : cw ar b τ w0 a = some (.inr (ci, fs))) (hc : vwCl[ci]? = some q) (hM : zt_M l D ar B b w0 n y bytes maxL ret fr lo (.ref a :: As) τ r τ2) (ck : zcV own q.1 y bytes maxL ret idx As.length) (hR : fr + 1 ≤ R.frames ∧ 8 + (maxL + 11) + lo ≤ R.locals) (hf : cells ≤ R.cells ∧ slots ≤ R.slots) (hs : stk = As.reverse ++ .ref a :: rest) (hW : (rest.map fun v => v.category).sum ≤ 8) (d : decode cc pc = .ok (.invokevirtual idx, 3)) (k : hvV p l e R s m args below meth c nL B cells slots Q (zc_I D B (cw ar b τ2 w0) n H0) (pc + 3) loc (r.toList ++ rest)) : hvV p l e R s m args below meth c nL B cells slots Q (zc_I D B (cw ar b τ w0) n H0) pc loc stk :=
  zc_callV As rest C K hw hc hM ck hR hf hs hW d (fun r' w' n' h => by obtain ⟨h1, h2, h3⟩ := h; subst h1; subst h2; subst h3; exact k)
theorem zt_iret (C : CallFix p m c cc nL s args hk_tb own) (hr : meth.sig.returnType = some .int) (hlk : meth.locks = false) {x v : Int} {τ' : Nat → Nat → Int} (hx : x = v) (hs : τ = τ') (d : decode cc pc = .ok (.ireturn, 1)) : hvV p l e R s m args below meth c nL B cells slots (MQ below (zc_Q D B (fun r' w' n' => r' = some (.int (iz v)) ∧ w' = cw ar b τ' w0 ∧ n' = n)) args s cells slots B) (zc_I D B (cw ar b τ w0) n s.heap) pc loc [.int (iz x)] := by
  subst hx; subst hs; exact zc_iret C hr hlk ⟨rfl, rfl, rfl⟩ d
theorem zt_zret (C : CallFix p m c cc nL s args hk_tb own) (hr : meth.sig.returnType = some .boolean) (hlk : meth.locks = false) {x : Int} {v : Bool} {τ' : Nat → Nat → Int} (hx : x = xb v) (hs : τ = τ') (d : decode cc pc = .ok (.ireturn, 1)) : hvV p l e R s m args below meth c nL B cells slots (MQ below (zc_Q D B (fun r' w' n' => r' = some (.int (iz (xb v))) ∧ w' = cw ar b τ' w0 ∧ n' = n)) args s cells slots B) (zc_I D B (cw ar b τ w0) n s.heap) pc loc [.int (iz x)] := by
  subst hs; exact zc_zret C hr hlk hx ⟨rfl, rfl, rfl⟩ d
theorem zt_vret (C : CallFix p m c cc nL s args hk_tb own) (hr : meth.sig.returnType = none) (hlk : meth.locks = false) {τ' : Nat → Nat → Int} (hs : τ = τ') (d : decode cc pc = .ok (.return_, 1)) : hvV p l e R s m args below meth c nL B cells slots (MQ below (zc_Q D B (fun r' w' n' => r' = none ∧ w' = cw ar b τ' w0 ∧ n' = n)) args s cells slots B) (zc_I D B (cw ar b τ w0) n s.heap) pc loc [] := by
  subst hs; exact zc_vret C hr hlk ⟨rfl, rfl, rfl⟩ d
theorem zc_aret (C : CallFix p m c cc nL s args hk_tb own) {tr : FieldType} (hr : meth.sig.returnType = some tr) (htr : (∃ n, tr = .object n) ∨ ∃ t, tr = .array t) (hlk : meth.locks = false) {w : zcW} {x : Nat} {Po : Option Value → zcW → Nat → Prop} (hp : Po (some (.ref x)) w n) (d : decode cc pc = .ok (.areturn, 1)) : hvV p l e R s m args below meth c nL B cells slots (MQ below (zc_Q D B Po) args s cells slots B) (zc_I D B w n s.heap) pc loc [.ref x] := by
  intro H locs ls h1 h2 h3
  exact W.aret C.1 C.2.1 hr htr (Or.inr ⟨_, rfl⟩) (fun t ht hW => ⟨_, _, _, hp, rfl, by rw [ht]; exact h1⟩) h2 d hlk
end ZT

