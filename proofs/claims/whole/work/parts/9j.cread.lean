/-! the contract that is being read: four cells from pk on -/
def kw (ar : Nat → ClassId) (pk : Nat) (τ : Nat → Nat → Int) (w0 : zcW) : zcW := fun a => if a = pk then some (.inr (2, [.int (iz (τ 100 0)), .ref (pk + 1), .ref (pk + 2), .ref (pk + 3)])) else if a = pk + 1 then some (.inl (ar 0, 16, .inl (fun q => iz (τ 101 q)))) else if a = pk + 2 then some (.inl (ar 0, 16, .inl (fun q => iz (τ 102 q)))) else if a = pk + 3 then some (.inl (ar 0, 256, .inl (fun q => iz (τ 103 q)))) else w0 a
def cv (ar : Nat → ClassId) (b pk : Nat) (τ : Nat → Nat → Int) (w0 : zcW) : zcW := cw ar b τ (kw ar pk τ w0)
section KWS
variable {ar : Nat → ClassId} {b pk : Nat} {τ T : Nat → Nat → Int} {w0 : zcW}
theorem kw_c (h0 : τ 100 = T 100) (h1 : τ 101 = T 101) (h2 : τ 102 = T 102) (h3 : τ 103 = T 103) : kw ar pk τ w0 = kw ar pk T w0 := by
  unfold kw
  rw [h0, h1, h2, h3]
theorem cv_at (j : Nat) {x : va_E} (h : gcell ar b (τ j) j = some x) : cv ar b pk τ w0 (b + j) = some x := cw_at j h
theorem cv_set (j2 i : Nat) (v : Int) {X : va_E} (h : gcell ar b (ua (τ j2) i v) j2 = some X) (hj : j2 < 100 := by decide) : zc_u (cv ar b pk τ w0) (b + j2) X = cv ar b pk (u2 τ j2 i v) w0 := by
  unfold cv
  rw [cw_set j2 i v h]
  rw [kw_c (τ := τ) (T := u2 τ j2 i v)] <;> (rw [u2_sA, sA_ne _ _ (by omega)])
theorem cv_kn (hk : b + 47 ≤ pk) {a : Nat} (ha : pk ≤ a) : cv ar b pk τ w0 a = kw ar pk τ w0 a := cw_nf (Or.inr (Or.inr (by omega)))
theorem cv_k100 (hk : b + 47 ≤ pk) : cv ar b pk τ w0 pk = some (.inr (2, [.int (iz (τ 100 0)), .ref (pk + 1), .ref (pk + 2), .ref (pk + 3)])) := by
  rw [cv_kn hk (by omega)]; unfold kw; rw [if_pos rfl]
theorem cv_k101 (hk : b + 47 ≤ pk) : cv ar b pk τ w0 (pk + 1) = some (.inl (ar 0, 16, .inl (fun q => iz (τ 101 q)))) := by
  rw [cv_kn hk (by omega)]; unfold kw; rw [if_neg (by omega), if_pos rfl]
theorem cv_k102 (hk : b + 47 ≤ pk) : cv ar b pk τ w0 (pk + 2) = some (.inl (ar 0, 16, .inl (fun q => iz (τ 102 q)))) := by
  rw [cv_kn hk (by omega)]; unfold kw; rw [if_neg (by omega), if_neg (by omega), if_pos rfl]
theorem cv_k103 (hk : b + 47 ≤ pk) : cv ar b pk τ w0 (pk + 3) = some (.inl (ar 0, 256, .inl (fun q => iz (τ 103 q)))) := by
  rw [cv_kn hk (by omega)]; unfold kw; rw [if_neg (by omega), if_neg (by omega), if_neg (by omega), if_pos rfl]
theorem cv_c (hk : b + 47 ≤ pk) {q : Nat} (hq : q < 4) {X : va_E} {i : Nat} {v : Int} (hX : cv ar b pk (u2 τ (100 + q) i v) w0 (pk + q) = some X) : zc_u (cv ar b pk τ w0) (pk + q) X = cv ar b pk (u2 τ (100 + q) i v) w0 := by
  funext a
  unfold zc_u
  by_cases e : a = pk + q
  · subst e; rw [if_pos rfl]; exact hX.symm
  · rw [if_neg e]
    by_cases lt : pk ≤ a
    · rw [cv_kn hk lt, cv_kn hk lt]
      have z : ∀ j, j ≠ 100 + q → u2 τ (100 + q) i v j = τ j := fun j hj => by rw [u2_sA, sA_ne _ _ hj]
      unfold kw
      by_cases c0 : a = pk
      · rw [if_pos c0, if_pos c0, z 100 (by omega)]
      · rw [if_neg c0, if_neg c0]
        by_cases c1 : a = pk + 1
        · rw [if_pos c1, if_pos c1, z 101 (by omega)]
        · rw [if_neg c1, if_neg c1]
          by_cases c2 : a = pk + 2
          · rw [if_pos c2, if_pos c2, z 102 (by omega)]
          · rw [if_neg c2, if_neg c2]
            by_cases c3 : a = pk + 3
            · rw [if_pos c3, if_pos c3, z 103 (by omega)]
            · rw [if_neg c3, if_neg c3]
    · unfold cv cw
      by_cases z : a < b
      · rw [if_pos z, if_pos z]
        unfold kw
        rw [if_neg (by omega), if_neg (by omega), if_neg (by omega), if_neg (by omega), if_neg (by omega), if_neg (by omega), if_neg (by omega), if_neg (by omega)]
      · rw [if_neg z, if_neg z]
        by_cases d : a - b < 47
        · rw [u2_sA, sA_ne _ _ (by omega)]
          unfold kw
          rw [if_neg (by omega), if_neg (by omega), if_neg (by omega), if_neg (by omega), if_neg (by omega), if_neg (by omega), if_neg (by omega), if_neg (by omega)]
        · rw [gcell_none ar b _ (by omega), gcell_none ar b _ (by omega)]
          show kw ar pk τ w0 a = kw ar pk _ w0 a
          unfold kw
          rw [if_neg (by omega), if_neg (by omega), if_neg (by omega), if_neg (by omega), if_neg (by omega), if_neg (by omega), if_neg (by omega), if_neg (by omega)]
theorem cv_s100 (hk : b + 47 ≤ pk) (i : Nat) (v : Int) : zc_u (cv ar b pk τ w0) pk (.inr (2, [.int (iz (ua (τ 100) i v 0)), .ref (pk + 1), .ref (pk + 2), .ref (pk + 3)])) = cv ar b pk (u2 τ 100 i v) w0 := cv_c hk (q := 0) (by decide) (by rw [show pk + 0 = pk from rfl, cv_k100 hk, u2_sA, sA_at])
theorem cv_s101 (hk : b + 47 ≤ pk) (i : Nat) (v : Int) : zc_u (cv ar b pk τ w0) (pk + 1) (.inl (ar 0, 16, .inl (fun q => iz (ua (τ 101) i v q)))) = cv ar b pk (u2 τ 101 i v) w0 := cv_c hk (q := 1) (by decide) (by rw [cv_k101 hk, u2_sA, sA_at])
theorem cv_s102 (hk : b + 47 ≤ pk) (i : Nat) (v : Int) : zc_u (cv ar b pk τ w0) (pk + 2) (.inl (ar 0, 16, .inl (fun q => iz (ua (τ 102) i v q)))) = cv ar b pk (u2 τ 102 i v) w0 := cv_c hk (q := 2) (by decide) (by rw [cv_k102 hk, u2_sA, sA_at])
theorem cv_s103 (hk : b + 47 ≤ pk) (i : Nat) (v : Int) : zc_u (cv ar b pk τ w0) (pk + 3) (.inl (ar 0, 256, .inl (fun q => iz (ua (τ 103) i v q)))) = cv ar b pk (u2 τ 103 i v) w0 := cv_c hk (q := 3) (by decide) (by rw [cv_k103 hk, u2_sA, sA_at])
end KWS
def zk_M (l : Launch) (D : va_G) (ar : Nat → ClassId) (B : Nat → Prop) (b pk : Nat) (w0 : zcW) (n : Nat) (y : MethodName) (cc : ByteArray) (mL : Nat) (ret : Option FieldType) (fr lo : Nat) (as : List Value) (τ : Nat → Nat → Int) (r : Option Value) (τ' : Nat → Nat → Int) : Prop :=
  zc_M l D ar B y cc mL ret fr lo 0 0 as (cv ar b pk τ w0) n (fun r' w' n' => r' = r ∧ w' = cv ar b pk τ' w0 ∧ n' = n)
section ZKS
variable {p : Program} {l : Launch} {e : Env} {R : Room} {s : State} {m : MethodId} {args : Array Value} {below : List Frame} {meth : Method} {c : Code} {nL : Nat} {Q : State → Prop} {pc : Nat} {loc : List (Nat × Value)} {stk : List Value} {cc : ByteArray} {D : va_G} {ar : Nat → ClassId} {B : Nat → Prop} {b pk n : Nat} {w0 : zcW} {τ : Nat → Nat → Int} {H0 : Heap} {own : String} {cells slots : Nat}
theorem zk_st {τ2 : Nat → Nat → Int} (h : τ = τ2) (k : hvV p l e R s m args below meth c nL B cells slots Q (zc_I D B (cv ar b pk τ2 w0) n H0) pc loc stk) : hvV p l e R s m args below meth c nL B cells slots Q (zc_I D B (cv ar b pk τ w0) n H0) pc loc stk := by rw [h]; exact k
theorem zk_callV {y : MethodName} {bytes : ByteArray} {maxL : Nat} {ret : Option FieldType} {fr lo idx a ci : Nat} {fs : List Value} {q : vw_C} {r : Option Value} {τ2 : Nat → Nat → Int} (As rest : List Value) (C : CallFix p m c cc nL s args hk_tb own) (K : clK D ar s) (hw : cv ar b pk τ w0 a = some (.inr (ci, fs))) (hc : vwCl[ci]? = some q) (hM : zk_M l D ar B b pk w0 n y bytes maxL ret fr lo (.ref a :: As) τ r τ2) (ck : zcV own q.1 y bytes maxL ret idx As.length) (hR : fr + 1 ≤ R.frames ∧ 8 + (maxL + 11) + lo ≤ R.locals) (hf : cells ≤ R.cells ∧ slots ≤ R.slots) (hs : stk = As.reverse ++ .ref a :: rest) (hW : (rest.map fun v => v.category).sum ≤ 8) (d : decode cc pc = .ok (.invokevirtual idx, 3)) (k : hvV p l e R s m args below meth c nL B cells slots Q (zc_I D B (cv ar b pk τ2 w0) n H0) (pc + 3) loc (r.toList ++ rest)) : hvV p l e R s m args below meth c nL B cells slots Q (zc_I D B (cv ar b pk τ w0) n H0) pc loc stk :=
  zc_callV As rest C K hw hc hM ck hR hf hs hW d (fun r' w' n' h => by obtain ⟨h1, h2, h3⟩ := h; subst h1; subst h2; subst h3; exact k)
theorem zk_iret (C : CallFix p m c cc nL s args hk_tb own) (hr : meth.sig.returnType = some .int) (hlk : meth.locks = false) {x v : Int} {τ' : Nat → Nat → Int} (hx : x = v) (hs : τ = τ') (d : decode cc pc = .ok (.ireturn, 1)) : hvV p l e R s m args below meth c nL B cells slots (MQ below (zc_Q D B (fun r' w' n' => r' = some (.int (iz v)) ∧ w' = cv ar b pk τ' w0 ∧ n' = n)) args s cells slots B) (zc_I D B (cv ar b pk τ w0) n s.heap) pc loc [.int (iz x)] := by
  subst hx; subst hs; exact zc_iret C hr hlk ⟨rfl, rfl, rfl⟩ d
theorem zk_zret (C : CallFix p m c cc nL s args hk_tb own) (hr : meth.sig.returnType = some .boolean) (hlk : meth.locks = false) {x : Int} {v : Bool} {τ' : Nat → Nat → Int} (hx : x = xb v) (hs : τ = τ') (d : decode cc pc = .ok (.ireturn, 1)) : hvV p l e R s m args below meth c nL B cells slots (MQ below (zc_Q D B (fun r' w' n' => r' = some (.int (iz (xb v))) ∧ w' = cv ar b pk τ' w0 ∧ n' = n)) args s cells slots B) (zc_I D B (cv ar b pk τ w0) n s.heap) pc loc [.int (iz x)] := by
  subst hs; exact zc_zret C hr hlk hx ⟨rfl, rfl, rfl⟩ d
theorem zk_vret (C : CallFix p m c cc nL s args hk_tb own) (hr : meth.sig.returnType = none) (hlk : meth.locks = false) {τ' : Nat → Nat → Int} (hs : τ = τ') (d : decode cc pc = .ok (.return_, 1)) : hvV p l e R s m args below meth c nL B cells slots (MQ below (zc_Q D B (fun r' w' n' => r' = none ∧ w' = cv ar b pk τ' w0 ∧ n' = n)) args s cells slots B) (zc_I D B (cv ar b pk τ w0) n s.heap) pc loc [] := by
  subst hs; exact zc_vret C hr hlk ⟨rfl, rfl, rfl⟩ d
end ZKS
/-- the reader's state: the token that is looked at, its place -/
def tkT (τ : Nat → Nat → Int) : Int := τ 45 (τ 44 3).toNat
def tkP (τ : Nat → Nat → Int) : Int := τ 46 (τ 44 3).toNat
def RI9 (pk : Nat) (τ : Nat → Nat → Int) : Prop := (0 ≤ τ 44 3 ∧ τ 44 3 ≤ τ 44 2 ∧ τ 44 2 ≤ 500) ∧ (0 ≤ τ 44 6 ∧ τ 44 6 ≤ 3) ∧ inI (τ 44 4) ∧ τ 44 5 = (pk : Int) ∧ (0 ≤ τ 100 0 ∧ τ 100 0 ≤ 16) ∧ (∀ i : Nat, (i : Int) ≤ τ 44 2 → inI (τ 45 i) ∧ inI (τ 46 i)) ∧ ∀ i, i < 16 → 0 ≤ τ 102 i ∧ τ 102 i ≤ 4
theorem RI9.t {pk : Nat} {τ : Nat → Nat → Int} (h : RI9 pk τ) : inI (tkT τ) ∧ inI (tkP τ) := h.2.2.2.2.2.1 (τ 44 3).toNat (by have := h.1; omega)
abbrev tkO (τ : Nat → Nat → Int) (fi la : Int) : Prop := (fi ≤ tkT τ ∧ tkT τ ≤ la) ∧ τ 44 3 < τ 44 2
def tkv (τ : Nat → Nat → Int) (fi la : Int) : Int := if ¬ τ 44 6 = 0 then 1 else if tkO τ fi la then tkT τ else 1
def tks (τ : Nat → Nat → Int) (fi la : Int) : Nat → Nat → Int := if ¬ τ 44 6 = 0 then τ else if tkO τ fi la then sA τ 44 (ua (τ 44) 3 (τ 44 3 + 1)) else sA τ 44 (ua (ua (τ 44) 6 1) 7 (tkP τ))
def otm (τ : Nat → Nat → Int) (pl : Int) : Nat → Nat → Int := if τ 44 4 = -1 then sA τ 44 (ua (τ 44) 4 pl) else τ
abbrev rmT (τ : Nat → Nat → Int) : Prop := τ 100 0 < 16 ∧ τ 102 (τ 100 0).toNat < 4
def rwT (τ : Nat → Nat → Int) : Nat := 16 * (τ 100 0).toNat + 4 * (τ 102 (τ 100 0).toNat).toNat
def atS (τ : Nat → Nat → Int) (nt sb sg nu : Int) : Nat → Nat → Int := if rmT τ then sA (sA τ 102 (ua (τ 102) (τ 100 0).toNat (τ 102 (τ 100 0).toNat + 1))) 103 (ua (ua (ua (ua (τ 103) (rwT τ) nt) (rwT τ + 1) sb) (rwT τ + 2) sg) (rwT τ + 3) nu) else τ
def alT (τ : Nat → Nat → Int) (d : Int) : Nat → Nat → Int := if τ 100 0 < 16 then sA (sA τ 100 (ua (τ 100) 0 (τ 100 0 + 1))) 101 (ua (τ 101) (τ 100 0).toNat d) else τ

theorem dX5_take_0 : decode cX5_take 0 = .ok (.aload_n 0, 1) := by decide +kernel
theorem dX5_take_1 : decode cX5_take 1 = .ok (.getfield 73, 3) := by decide +kernel
theorem dX5_take_4 : decode cX5_take 4 = .ok (.ifCond .eq 5, 3) := by decide +kernel
theorem dX5_take_7 : decode cX5_take 7 = .ok (.iconst 1, 1) := by decide +kernel
theorem dX5_take_8 : decode cX5_take 8 = .ok (.ireturn, 1) := by decide +kernel
theorem dX5_take_9 : decode cX5_take 9 = .ok (.aload_n 0, 1) := by decide +kernel
theorem dX5_take_10 : decode cX5_take 10 = .ok (.getfield 9, 3) := by decide +kernel
theorem dX5_take_13 : decode cX5_take 13 = .ok (.aload_n 0, 1) := by decide +kernel
theorem dX5_take_14 : decode cX5_take 14 = .ok (.getfield 70, 3) := by decide +kernel
theorem dX5_take_17 : decode cX5_take 17 = .ok (.iaload, 1) := by decide +kernel
theorem dX5_take_18 : decode cX5_take 18 = .ok (.istore_n 3, 1) := by decide +kernel
theorem dX5_take_19 : decode cX5_take 19 = .ok (.iload_n 3, 1) := by decide +kernel
theorem dX5_take_20 : decode cX5_take 20 = .ok (.iload_n 1, 1) := by decide +kernel
theorem dX5_take_21 : decode cX5_take 21 = .ok (.iload_n 2, 1) := by decide +kernel
theorem dX5_take_22 : decode cX5_take 22 = .ok (.invokestatic 108, 3) := by decide +kernel
theorem dX5_take_25 : decode cX5_take 25 = .ok (.ifCond .eq 14, 3) := by decide +kernel
theorem dX5_take_28 : decode cX5_take 28 = .ok (.aload_n 0, 1) := by decide +kernel
theorem dX5_take_29 : decode cX5_take 29 = .ok (.getfield 70, 3) := by decide +kernel
theorem dX5_take_32 : decode cX5_take 32 = .ok (.aload_n 0, 1) := by decide +kernel
theorem dX5_take_33 : decode cX5_take 33 = .ok (.getfield 31, 3) := by decide +kernel
theorem dX5_take_36 : decode cX5_take 36 = .ok (.if_icmp .lt 23, 3) := by decide +kernel
theorem dX5_take_39 : decode cX5_take 39 = .ok (.aload_n 0, 1) := by decide +kernel
theorem dX5_take_40 : decode cX5_take 40 = .ok (.iconst 1, 1) := by decide +kernel
theorem dX5_take_41 : decode cX5_take 41 = .ok (.putfield 73, 3) := by decide +kernel
theorem dX5_take_44 : decode cX5_take 44 = .ok (.aload_n 0, 1) := by decide +kernel
theorem dX5_take_45 : decode cX5_take 45 = .ok (.aload_n 0, 1) := by decide +kernel
theorem dX5_take_46 : decode cX5_take 46 = .ok (.getfield 15, 3) := by decide +kernel
theorem dX5_take_49 : decode cX5_take 49 = .ok (.aload_n 0, 1) := by decide +kernel
theorem dX5_take_50 : decode cX5_take 50 = .ok (.getfield 70, 3) := by decide +kernel
theorem dX5_take_53 : decode cX5_take 53 = .ok (.iaload, 1) := by decide +kernel
theorem dX5_take_54 : decode cX5_take 54 = .ok (.putfield 76, 3) := by decide +kernel
theorem dX5_take_57 : decode cX5_take 57 = .ok (.iconst 1, 1) := by decide +kernel
theorem dX5_take_58 : decode cX5_take 58 = .ok (.ireturn, 1) := by decide +kernel
theorem dX5_take_59 : decode cX5_take 59 = .ok (.aload_n 0, 1) := by decide +kernel
theorem dX5_take_60 : decode cX5_take 60 = .ok (.dup, 1) := by decide +kernel
theorem dX5_take_61 : decode cX5_take 61 = .ok (.getfield 70, 3) := by decide +kernel
theorem dX5_take_64 : decode cX5_take 64 = .ok (.iconst 1, 1) := by decide +kernel
theorem dX5_take_65 : decode cX5_take 65 = .ok (.iadd, 1) := by decide +kernel
theorem dX5_take_66 : decode cX5_take 66 = .ok (.putfield 70, 3) := by decide +kernel
theorem dX5_take_69 : decode cX5_take 69 = .ok (.iload_n 3, 1) := by decide +kernel
theorem dX5_take_70 : decode cX5_take 70 = .ok (.ireturn, 1) := by decide +kernel
theorem fl_X5_73 : Cond.fieldLink RX5 73 "HookUps$Reader" (TX5 6).2.1 (TX5 6).2.2.1 ∈ hk_tb := hk_tq2 51 (by decide +kernel) (by decide +kernel)
theorem fl_X5_70 : Cond.fieldLink RX5 70 "HookUps$Reader" (TX5 3).2.1 (TX5 3).2.2.1 ∈ hk_tb := hk_tq2 47 (by decide +kernel) (by decide +kernel)
theorem ck_X5_108 : zcN RX5 "HookUps" yX11_within cX11_within 3 (some .boolean) 108 3 := ⟨hk_tq2 109 (by decide +kernel) (by decide +kernel), by decide +kernel, hk_tq1 1 (by decide +kernel) (by decide +kernel), ⟨by decide, by decide, by decide +kernel⟩, hk_tq2 108 (by decide +kernel) (by decide +kernel)⟩
theorem fl_X5_76 : Cond.fieldLink RX5 76 "HookUps$Reader" (TX5 7).2.1 (TX5 7).2.2.1 ∈ hk_tb := hk_tq2 53 (by decide +kernel) (by decide +kernel)
set_option maxRecDepth 100000 in
set_option maxHeartbeats 4000000 in
theorem k_X5_take (l : Launch) {D : va_G} {ar : Nat → ClassId} {B : Nat → Prop} {b n : Nat} {w0 : zcW} {pk : Nat} (τ : Nat → Nat → Int) (fi : Int) (la : Int) (hk : b + 47 ≤ pk) (hI : RI9 pk τ) (r_fi : inI fi) (r_la : inI la) : zk_M l D ar B b pk w0 n yX5_take cX5_take 4 (some .int) 1 22 [.ref (b + 44), .int (iz fi), .int (iz la)] τ (some (.int (iz (tkv τ fi la)))) (tks τ fi la) := by
  refine zc_start (own := RX5) (by decide +kernel) rfl (Nat.le_of_ble_eq_true rfl) ?_
  intro p e s m args below meth c C K hr hlk hnam
  have hI0 := hI
  obtain ⟨i1, i2, i3, i4, i5, i6, i7⟩ := hI
  have zt := hI0.t
  unfold tkT tkP at zt
  refine hv_aload_n C 0 0 dX5_take_0 rfl rfl ?_
  refine zc_get C K (v := .int (iz (τ 44 6))) 6 rfl hu_6 (by decide) (cv_at 44 rfl) rfl fl_X5_73 rfl dX5_take_1 ?_
  refine hv_if_eq C 9 dX5_take_4 (by decide) (by omega) (fun h4 => ?_) (fun h4 => ?_)
  · skip
    refine hv_aload_n C 0 0 dX5_take_9 rfl rfl ?_
    refine zc_get C K (v := .ref (b + 45)) 0 rfl hu_6 (by decide) (cv_at 44 rfl) rfl fl_X5_9 rfl dX5_take_10 ?_
    refine hv_aload_n C 0 0 dX5_take_13 rfl rfl ?_
    refine zc_get C K (v := .int (iz (τ 44 3))) 3 rfl hu_6 (by decide) (cv_at 44 rfl) rfl fl_X5_70 rfl dX5_take_14 ?_
    refine zc_iald C K (f := (τ 45)) (((τ 44 3) : Int)).toNat (cv_at 45 rfl) (by omega) (by omega) (by decide) dX5_take_17 ?_
    refine hv_as (τ 45 (((τ 44 3) : Int)).toNat) rfl ?_
    refine hv_istore_n C 3 [(3, .int (iz (τ 45 (((τ 44 3) : Int)).toNat))), (0, .ref (b + 44)), (1, .int (iz fi)), (2, .int (iz la))] dX5_take_18 rfl (by decide) rfl ?_
    refine hv_iload_n C 3 0 dX5_take_19 rfl rfl ?_
    refine hv_iload_n C 1 2 dX5_take_20 rfl rfl ?_
    refine hv_iload_n C 2 3 dX5_take_21 rfl rfl ?_
    refine zt_callN [.int (iz (τ 45 (((τ 44 3) : Int)).toNat)), .int (iz fi), .int (iz la)] [] C K (k_X11_within l  τ (τ 45 (((τ 44 3) : Int)).toNat) fi la (by omega) (by omega) (by omega)) ck_X5_108 (by decide) ⟨Nat.zero_le _, Nat.zero_le _⟩ rfl (Nat.le_of_ble_eq_true rfl) dX5_take_22 ?_
    refine hv_as (xb (decide (fi ≤ (τ 45 (((τ 44 3) : Int)).toNat) ∧ (τ 45 (((τ 44 3) : Int)).toNat) ≤ la))) rfl ?_
    refine hv_dif_eq C 39 dX5_take_25 (by decide)  (fun h25 => ?_) (fun h25 => ?_)
    · skip
      refine hv_aload_n C 0 1 dX5_take_39 rfl rfl ?_
      refine hv_iconst C dX5_take_40 ?_
      refine zc_put C K 6 rfl hu_6 tyX5 tyX5_ok nmX5 (by decide) (cv_at 44 rfl) (cv_set 44 6 1 rfl) fl_X5_73 rfl rfl (ty := .int) (by decide +kernel) rfl rfl (Nat.le_of_ble_eq_true rfl) dX5_take_41 ?_
      refine zk_st (τ2 := sA τ 44 (ua (τ 44) 6 1)) (by rw [u2_sA]; first | done | rfl) ?_
      refine hv_aload_n C 0 1 dX5_take_44 rfl rfl ?_
      refine hv_aload_n C 0 1 dX5_take_45 rfl rfl ?_
      refine zc_get C K (v := .ref (b + 46)) 1 rfl hu_6 (by decide) (cv_at 44 rfl) rfl fl_X5_15 rfl dX5_take_46 ?_
      refine hv_aload_n C 0 1 dX5_take_49 rfl rfl ?_
      refine zc_get C K (v := .int (iz (τ 44 3))) 3 rfl hu_6 (by decide) (cv_at 44 rfl) rfl fl_X5_70 rfl dX5_take_50 ?_
      refine zc_iald C K (f := (τ 46)) (((τ 44 3) : Int)).toNat (cv_at 46 rfl) (by omega) (by omega) (by decide) dX5_take_53 ?_
      refine hv_as (τ 46 (((τ 44 3) : Int)).toNat) rfl ?_
      refine zc_put C K 7 rfl hu_6 tyX5 tyX5_ok nmX5 (by decide) (cv_at 44 rfl) (cv_set 44 7 (τ 46 (((τ 44 3) : Int)).toNat) rfl) fl_X5_76 rfl rfl (ty := .int) (by decide +kernel) rfl rfl (Nat.le_of_ble_eq_true rfl) dX5_take_54 ?_
      refine zk_st (τ2 := sA τ 44 (ua (ua (τ 44) 6 1) 7 (τ 46 (((τ 44 3) : Int)).toNat))) (by rw [u2_sA, sA_sA]; first | done | rfl) ?_
      refine hv_iconst C dX5_take_57 ?_
      exact zk_iret C hr hlk (by unfold tkv tkO tkT; first | (rw [if_pos (by omega)]; done) | (rw [if_neg (by omega), if_pos (by omega)]; done) | (rw [if_neg (by omega), if_neg (by omega)])) (by unfold tks tkO tkT tkP; first | (rw [if_pos (by omega)]; done) | (rw [if_neg (by omega), if_pos (by omega)]; done) | (rw [if_neg (by omega), if_neg (by omega)])) dX5_take_58
    · skip
      refine hv_aload_n C 0 1 dX5_take_28 rfl rfl ?_
      refine zc_get C K (v := .int (iz (τ 44 3))) 3 rfl hu_6 (by decide) (cv_at 44 rfl) rfl fl_X5_70 rfl dX5_take_29 ?_
      refine hv_aload_n C 0 1 dX5_take_32 rfl rfl ?_
      refine zc_get C K (v := .int (iz (τ 44 2))) 2 rfl hu_6 (by decide) (cv_at 44 rfl) rfl fl_X5_31 rfl dX5_take_33 ?_
      refine hv_icmp_lt C 59 dX5_take_36 (by decide) (by omega) (by omega) (fun h36 => ?_) (fun h36 => ?_)
      · skip
        refine hv_aload_n C 0 1 dX5_take_59 rfl rfl ?_
        refine hv_dup C dX5_take_60 rfl ?_
        refine zc_get C K (v := .int (iz (τ 44 3))) 3 rfl hu_6 (by decide) (cv_at 44 rfl) rfl fl_X5_70 rfl dX5_take_61 ?_
        refine hv_iconst C dX5_take_64 ?_
        refine hv_iadd C dX5_take_65 ?_
        refine zc_put C K 3 rfl hu_6 tyX5 tyX5_ok nmX5 (by decide) (cv_at 44 rfl) (cv_set 44 3 ((τ 44 3) + 1) rfl) fl_X5_70 rfl rfl (ty := .int) (by decide +kernel) rfl rfl (Nat.le_of_ble_eq_true rfl) dX5_take_66 ?_
        refine zk_st (τ2 := sA τ 44 (ua (τ 44) 3 ((τ 44 3) + 1))) (by rw [u2_sA]; first | done | rfl) ?_
        refine hv_iload_n C 3 0 dX5_take_69 rfl rfl ?_
        exact zk_iret C hr hlk (by unfold tkv tkO tkT; first | (rw [if_pos (by omega)]; done) | (rw [if_neg (by omega), if_pos (by omega)]; done) | (rw [if_neg (by omega), if_neg (by omega)])) (by unfold tks tkO tkT tkP; first | (rw [if_pos (by omega)]; done) | (rw [if_neg (by omega), if_pos (by omega)]; done) | (rw [if_neg (by omega), if_neg (by omega)])) dX5_take_70
      · skip
        refine hv_aload_n C 0 1 dX5_take_39 rfl rfl ?_
        refine hv_iconst C dX5_take_40 ?_
        refine zc_put C K 6 rfl hu_6 tyX5 tyX5_ok nmX5 (by decide) (cv_at 44 rfl) (cv_set 44 6 1 rfl) fl_X5_73 rfl rfl (ty := .int) (by decide +kernel) rfl rfl (Nat.le_of_ble_eq_true rfl) dX5_take_41 ?_
        refine zk_st (τ2 := sA τ 44 (ua (τ 44) 6 1)) (by rw [u2_sA]; first | done | rfl) ?_
        refine hv_aload_n C 0 1 dX5_take_44 rfl rfl ?_
        refine hv_aload_n C 0 1 dX5_take_45 rfl rfl ?_
        refine zc_get C K (v := .ref (b + 46)) 1 rfl hu_6 (by decide) (cv_at 44 rfl) rfl fl_X5_15 rfl dX5_take_46 ?_
        refine hv_aload_n C 0 1 dX5_take_49 rfl rfl ?_
        refine zc_get C K (v := .int (iz (τ 44 3))) 3 rfl hu_6 (by decide) (cv_at 44 rfl) rfl fl_X5_70 rfl dX5_take_50 ?_
        refine zc_iald C K (f := (τ 46)) (((τ 44 3) : Int)).toNat (cv_at 46 rfl) (by omega) (by omega) (by decide) dX5_take_53 ?_
        refine hv_as (τ 46 (((τ 44 3) : Int)).toNat) rfl ?_
        refine zc_put C K 7 rfl hu_6 tyX5 tyX5_ok nmX5 (by decide) (cv_at 44 rfl) (cv_set 44 7 (τ 46 (((τ 44 3) : Int)).toNat) rfl) fl_X5_76 rfl rfl (ty := .int) (by decide +kernel) rfl rfl (Nat.le_of_ble_eq_true rfl) dX5_take_54 ?_
        refine zk_st (τ2 := sA τ 44 (ua (ua (τ 44) 6 1) 7 (τ 46 (((τ 44 3) : Int)).toNat))) (by rw [u2_sA, sA_sA]; first | done | rfl) ?_
        refine hv_iconst C dX5_take_57 ?_
        exact zk_iret C hr hlk (by unfold tkv tkO tkT; first | (rw [if_pos (by omega)]; done) | (rw [if_neg (by omega), if_pos (by omega)]; done) | (rw [if_neg (by omega), if_neg (by omega)])) (by unfold tks tkO tkT tkP; first | (rw [if_pos (by omega)]; done) | (rw [if_neg (by omega), if_pos (by omega)]; done) | (rw [if_neg (by omega), if_neg (by omega)])) dX5_take_58
  · skip
    refine hv_iconst C dX5_take_7 ?_
    exact zk_iret C hr hlk (by unfold tkv tkO tkT; first | (rw [if_pos (by omega)]; done) | (rw [if_neg (by omega), if_pos (by omega)]; done) | (rw [if_neg (by omega), if_neg (by omega)])) (by unfold tks tkO tkT tkP; first | (rw [if_pos (by omega)]; done) | (rw [if_neg (by omega), if_pos (by omega)]; done) | (rw [if_neg (by omega), if_neg (by omega)])) dX5_take_8
theorem dX5_oneTooMany_0 : decode cX5_oneTooMany 0 = .ok (.aload_n 0, 1) := by decide +kernel
theorem dX5_oneTooMany_1 : decode cX5_oneTooMany 1 = .ok (.getfield 79, 3) := by decide +kernel
theorem dX5_oneTooMany_4 : decode cX5_oneTooMany 4 = .ok (.iconst (-1), 1) := by decide +kernel
theorem dX5_oneTooMany_5 : decode cX5_oneTooMany 5 = .ok (.if_icmp .ne 8, 3) := by decide +kernel
theorem dX5_oneTooMany_8 : decode cX5_oneTooMany 8 = .ok (.aload_n 0, 1) := by decide +kernel
theorem dX5_oneTooMany_9 : decode cX5_oneTooMany 9 = .ok (.iload_n 1, 1) := by decide +kernel
theorem dX5_oneTooMany_10 : decode cX5_oneTooMany 10 = .ok (.putfield 79, 3) := by decide +kernel
theorem dX5_oneTooMany_13 : decode cX5_oneTooMany 13 = .ok (.return_, 1) := by decide +kernel
theorem fl_X5_79 : Cond.fieldLink RX5 79 "HookUps$Reader" (TX5 4).2.1 (TX5 4).2.2.1 ∈ hk_tb := hk_tq2 48 (by decide +kernel) (by decide +kernel)
set_option maxRecDepth 100000 in
set_option maxHeartbeats 4000000 in
theorem k_X5_oneTooMany (l : Launch) {D : va_G} {ar : Nat → ClassId} {B : Nat → Prop} {b n : Nat} {w0 : zcW} {pk : Nat} (τ : Nat → Nat → Int) (pl : Int) (hk : b + 47 ≤ pk) (hI : RI9 pk τ) (r_pl : inI pl) : zk_M l D ar B b pk w0 n yX5_oneTooMany cX5_oneTooMany 2 none 0 0 [.ref (b + 44), .int (iz pl)] τ none (otm τ pl) := by
  refine zc_start (own := RX5) (by decide +kernel) rfl (Nat.le_of_ble_eq_true rfl) ?_
  intro p e s m args below meth c C K hr hlk hnam
  obtain ⟨i1, i2, i3, i4, i5, i6, i7⟩ := hI
  refine hv_aload_n C 0 0 dX5_oneTooMany_0 rfl rfl ?_
  refine zc_get C K (v := .int (iz (τ 44 4))) 4 rfl hu_6 (by decide) (cv_at 44 rfl) rfl fl_X5_79 rfl dX5_oneTooMany_1 ?_
  refine hv_iconst C dX5_oneTooMany_4 ?_
  refine hv_icmp_ne C 13 dX5_oneTooMany_5 (by decide) (by omega) (by omega) (fun h5 => ?_) (fun h5 => ?_)
  · skip
    exact zk_vret C hr hlk (by unfold otm; first | (rw [if_pos (by omega)]; done) | (rw [if_neg (by omega)])) dX5_oneTooMany_13
  · skip
    refine hv_aload_n C 0 0 dX5_oneTooMany_8 rfl rfl ?_
    refine hv_iload_n C 1 1 dX5_oneTooMany_9 rfl rfl ?_
    refine zc_put C K 4 rfl hu_6 tyX5 tyX5_ok nmX5 (by decide) (cv_at 44 rfl) (cv_set 44 4 pl rfl) fl_X5_79 rfl rfl (ty := .int) (by decide +kernel) rfl rfl (Nat.le_of_ble_eq_true rfl) dX5_oneTooMany_10 ?_
    refine zk_st (τ2 := sA τ 44 (ua (τ 44) 4 pl)) (by rw [u2_sA]; first | done | rfl) ?_
    exact zk_vret C hr hlk (by unfold otm; first | (rw [if_pos (by omega)]; done) | (rw [if_neg (by omega)])) dX5_oneTooMany_13
theorem dX1_addTest_0 : decode cX1_addTest 0 = .ok (.aload_n 0, 1) := by decide +kernel
theorem dX1_addTest_1 : decode cX1_addTest 1 = .ok (.getfield 21, 3) := by decide +kernel
theorem dX1_addTest_4 : decode cX1_addTest 4 = .ok (.bipush 16, 2) := by decide +kernel
theorem dX1_addTest_6 : decode cX1_addTest 6 = .ok (.if_icmp .ge 16, 3) := by decide +kernel
theorem dX1_addTest_9 : decode cX1_addTest 9 = .ok (.aload_n 0, 1) := by decide +kernel
theorem dX1_addTest_10 : decode cX1_addTest 10 = .ok (.getfield 15, 3) := by decide +kernel
theorem dX1_addTest_13 : decode cX1_addTest 13 = .ok (.aload_n 0, 1) := by decide +kernel
theorem dX1_addTest_14 : decode cX1_addTest 14 = .ok (.getfield 21, 3) := by decide +kernel
theorem dX1_addTest_17 : decode cX1_addTest 17 = .ok (.iaload, 1) := by decide +kernel
theorem dX1_addTest_18 : decode cX1_addTest 18 = .ok (.iconst 4, 1) := by decide +kernel
theorem dX1_addTest_19 : decode cX1_addTest 19 = .ok (.if_icmp .lt 5, 3) := by decide +kernel
theorem dX1_addTest_22 : decode cX1_addTest 22 = .ok (.iconst 0, 1) := by decide +kernel
theorem dX1_addTest_23 : decode cX1_addTest 23 = .ok (.ireturn, 1) := by decide +kernel
theorem dX1_addTest_24 : decode cX1_addTest 24 = .ok (.aload_n 0, 1) := by decide +kernel
theorem dX1_addTest_25 : decode cX1_addTest 25 = .ok (.getfield 21, 3) := by decide +kernel
theorem dX1_addTest_28 : decode cX1_addTest 28 = .ok (.aload_n 0, 1) := by decide +kernel
theorem dX1_addTest_29 : decode cX1_addTest 29 = .ok (.getfield 15, 3) := by decide +kernel
theorem dX1_addTest_32 : decode cX1_addTest 32 = .ok (.aload_n 0, 1) := by decide +kernel
theorem dX1_addTest_33 : decode cX1_addTest 33 = .ok (.getfield 21, 3) := by decide +kernel
theorem dX1_addTest_36 : decode cX1_addTest 36 = .ok (.iaload, 1) := by decide +kernel
theorem dX1_addTest_37 : decode cX1_addTest 37 = .ok (.invokestatic 25, 3) := by decide +kernel
theorem dX1_addTest_40 : decode cX1_addTest 40 = .ok (.istore 5, 2) := by decide +kernel
theorem dX1_addTest_42 : decode cX1_addTest 42 = .ok (.aload_n 0, 1) := by decide +kernel
theorem dX1_addTest_43 : decode cX1_addTest 43 = .ok (.getfield 18, 3) := by decide +kernel
theorem dX1_addTest_46 : decode cX1_addTest 46 = .ok (.iload 5, 2) := by decide +kernel
theorem dX1_addTest_48 : decode cX1_addTest 48 = .ok (.iload_n 1, 1) := by decide +kernel
theorem dX1_addTest_49 : decode cX1_addTest 49 = .ok (.ifCond .eq 7, 3) := by decide +kernel
theorem dX1_addTest_52 : decode cX1_addTest 52 = .ok (.iconst 1, 1) := by decide +kernel
theorem dX1_addTest_53 : decode cX1_addTest 53 = .ok (.goto 4, 3) := by decide +kernel
theorem dX1_addTest_56 : decode cX1_addTest 56 = .ok (.iconst 0, 1) := by decide +kernel
theorem dX1_addTest_57 : decode cX1_addTest 57 = .ok (.iastore, 1) := by decide +kernel
theorem dX1_addTest_58 : decode cX1_addTest 58 = .ok (.aload_n 0, 1) := by decide +kernel
theorem dX1_addTest_59 : decode cX1_addTest 59 = .ok (.getfield 18, 3) := by decide +kernel
theorem dX1_addTest_62 : decode cX1_addTest 62 = .ok (.iload 5, 2) := by decide +kernel
theorem dX1_addTest_64 : decode cX1_addTest 64 = .ok (.iconst 1, 1) := by decide +kernel
theorem dX1_addTest_65 : decode cX1_addTest 65 = .ok (.iadd, 1) := by decide +kernel
theorem dX1_addTest_66 : decode cX1_addTest 66 = .ok (.iload_n 2, 1) := by decide +kernel
theorem dX1_addTest_67 : decode cX1_addTest 67 = .ok (.iastore, 1) := by decide +kernel
theorem dX1_addTest_68 : decode cX1_addTest 68 = .ok (.aload_n 0, 1) := by decide +kernel
theorem dX1_addTest_69 : decode cX1_addTest 69 = .ok (.getfield 18, 3) := by decide +kernel
theorem dX1_addTest_72 : decode cX1_addTest 72 = .ok (.iload 5, 2) := by decide +kernel
theorem dX1_addTest_74 : decode cX1_addTest 74 = .ok (.iconst 2, 1) := by decide +kernel
theorem dX1_addTest_75 : decode cX1_addTest 75 = .ok (.iadd, 1) := by decide +kernel
theorem dX1_addTest_76 : decode cX1_addTest 76 = .ok (.iload_n 3, 1) := by decide +kernel
theorem dX1_addTest_77 : decode cX1_addTest 77 = .ok (.iastore, 1) := by decide +kernel
theorem dX1_addTest_78 : decode cX1_addTest 78 = .ok (.aload_n 0, 1) := by decide +kernel
theorem dX1_addTest_79 : decode cX1_addTest 79 = .ok (.getfield 18, 3) := by decide +kernel
theorem dX1_addTest_82 : decode cX1_addTest 82 = .ok (.iload 5, 2) := by decide +kernel
theorem dX1_addTest_84 : decode cX1_addTest 84 = .ok (.iconst 3, 1) := by decide +kernel
theorem dX1_addTest_85 : decode cX1_addTest 85 = .ok (.iadd, 1) := by decide +kernel
theorem dX1_addTest_86 : decode cX1_addTest 86 = .ok (.iload 4, 2) := by decide +kernel
theorem dX1_addTest_88 : decode cX1_addTest 88 = .ok (.iastore, 1) := by decide +kernel
theorem dX1_addTest_89 : decode cX1_addTest 89 = .ok (.aload_n 0, 1) := by decide +kernel
theorem dX1_addTest_90 : decode cX1_addTest 90 = .ok (.getfield 15, 3) := by decide +kernel
theorem dX1_addTest_93 : decode cX1_addTest 93 = .ok (.aload_n 0, 1) := by decide +kernel
theorem dX1_addTest_94 : decode cX1_addTest 94 = .ok (.getfield 21, 3) := by decide +kernel
theorem dX1_addTest_97 : decode cX1_addTest 97 = .ok (.dup2, 1) := by decide +kernel
theorem dX1_addTest_98 : decode cX1_addTest 98 = .ok (.iaload, 1) := by decide +kernel
theorem dX1_addTest_99 : decode cX1_addTest 99 = .ok (.iconst 1, 1) := by decide +kernel
theorem dX1_addTest_100 : decode cX1_addTest 100 = .ok (.iadd, 1) := by decide +kernel
theorem dX1_addTest_101 : decode cX1_addTest 101 = .ok (.iastore, 1) := by decide +kernel
theorem dX1_addTest_102 : decode cX1_addTest 102 = .ok (.iconst 1, 1) := by decide +kernel
theorem dX1_addTest_103 : decode cX1_addTest 103 = .ok (.ireturn, 1) := by decide +kernel
set_option maxRecDepth 100000 in
set_option maxHeartbeats 4000000 in
theorem k_X1_addTest (l : Launch) {D : va_G} {ar : Nat → ClassId} {B : Nat → Prop} {b n : Nat} {w0 : zcW} {pk : Nat} (τ : Nat → Nat → Int) (nt : Bool) (sb : Int) (sg : Int) (nu : Int) (hk : b + 47 ≤ pk) (hI : RI9 pk τ) : zk_M l D ar B b pk w0 n yX1_addTest cX1_addTest 6 (some .boolean) 1 21 [.ref pk, .int (iz (xb (nt))), .int (iz sb), .int (iz sg), .int (iz nu)] τ (some (.int (iz (xb (decide (rmT τ)))))) (atS τ (xb nt) sb sg nu) := by
  refine zc_start (own := RX1) (by decide +kernel) rfl (Nat.le_of_ble_eq_true rfl) ?_
  intro p e s m args below meth c C K hr hlk hnam
  obtain ⟨i1, i2, i3, i4, i5, i6, i7⟩ := hI
  refine hv_aload_n C 0 0 dX1_addTest_0 rfl rfl ?_
  refine zc_get C K (v := .int (iz (τ 100 0))) 0 rfl hu_2 (by decide) (cv_k100 hk) rfl fl_X1_21 rfl dX1_addTest_1 ?_
  refine hv_bipush C dX1_addTest_4 (by decide) ?_
  refine hv_icmp_ge C 22 dX1_addTest_6 (by decide) (by omega) (by omega) (fun h6 => ?_) (fun h6 => ?_)
  · skip
    refine hv_iconst C dX1_addTest_22 ?_
    exact zk_zret C hr hlk ((xb_f (decide_eq_false (by unfold rmT; omega))).symm) (by unfold atS rmT rwT; first | (rw [if_neg (by omega)]; done) | (rw [if_pos (by omega)]; first | rfl | (cases nt <;> first | rfl | contradiction))) dX1_addTest_23
  · skip
    have c7 := i7 (τ 100 0).toNat (by omega)
    refine hv_aload_n C 0 0 dX1_addTest_9 rfl rfl ?_
    refine zc_get C K (v := .ref (pk + 2)) 2 rfl hu_2 (by decide) (cv_k100 hk) rfl fl_X1_15 rfl dX1_addTest_10 ?_
    refine hv_aload_n C 0 0 dX1_addTest_13 rfl rfl ?_
    refine zc_get C K (v := .int (iz (τ 100 0))) 0 rfl hu_2 (by decide) (cv_k100 hk) rfl fl_X1_21 rfl dX1_addTest_14 ?_
    refine zc_iald C K (f := (τ 102)) (((τ 100 0) : Int)).toNat (cv_k102 hk) (by omega) (by omega) (by decide) dX1_addTest_17 ?_
    refine hv_as (τ 102 (((τ 100 0) : Int)).toNat) rfl ?_
    refine hv_iconst C dX1_addTest_18 ?_
    refine hv_icmp_lt C 24 dX1_addTest_19 (by decide) (by omega) (by omega) (fun h19 => ?_) (fun h19 => ?_)
    · skip
      refine hv_aload_n C 0 0 dX1_addTest_24 rfl rfl ?_
      refine zc_get C K (v := .int (iz (τ 100 0))) 0 rfl hu_2 (by decide) (cv_k100 hk) rfl fl_X1_21 rfl dX1_addTest_25 ?_
      refine hv_as ((((τ 100 0).toNat : Nat) : Int)) (by omega) ?_
      refine hv_aload_n C 0 0 dX1_addTest_28 rfl rfl ?_
      refine zc_get C K (v := .ref (pk + 2)) 2 rfl hu_2 (by decide) (cv_k100 hk) rfl fl_X1_15 rfl dX1_addTest_29 ?_
      refine hv_aload_n C 0 0 dX1_addTest_32 rfl rfl ?_
      refine zc_get C K (v := .int (iz (τ 100 0))) 0 rfl hu_2 (by decide) (cv_k100 hk) rfl fl_X1_21 rfl dX1_addTest_33 ?_
      refine zc_iald C K (f := (τ 102)) (((τ 100 0) : Int)).toNat (cv_k102 hk) (by omega) (by omega) (by decide) dX1_addTest_36 ?_
      refine hv_as (τ 102 (((τ 100 0) : Int)).toNat) rfl ?_
      refine hv_as ((((τ 102 (τ 100 0).toNat).toNat : Nat) : Int)) (by omega) ?_
      refine zt_callS [.int (iz (((τ 100 0).toNat : Nat) : Int)), .int (iz (((τ 102 (τ 100 0).toNat).toNat : Nat) : Int))] [] C K (k_X1_rowOf l  τ ((τ 100 0).toNat) ((τ 102 (τ 100 0).toNat).toNat) ) ck_X1_25 (by decide) ⟨Nat.zero_le _, Nat.zero_le _⟩ rfl (Nat.le_of_ble_eq_true rfl) dX1_addTest_37 ?_
      refine hv_as (((16 * ((τ 100 0).toNat) + 4 * ((τ 102 (τ 100 0).toNat).toNat) : Nat) : Int)) rfl ?_
      refine hv_istore C 5 [(5, .int (iz ((16 * ((τ 100 0).toNat) + 4 * ((τ 102 (τ 100 0).toNat).toNat) : Nat) : Int))), (0, .ref pk), (1, .int (iz (xb (nt)))), (2, .int (iz sb)), (3, .int (iz sg)), (4, .int (iz nu))] dX1_addTest_40 (by decide) rfl ?_
      refine hv_aload_n C 0 1 dX1_addTest_42 rfl rfl ?_
      refine zc_get C K (v := .ref (pk + 3)) 3 rfl hu_2 (by decide) (cv_k100 hk) rfl fl_X1_18 rfl dX1_addTest_43 ?_
      refine hv_iload C 5 0 dX1_addTest_46 rfl ?_
      refine hv_iload_n C 1 2 dX1_addTest_48 rfl rfl ?_
      refine hv_bif_eq C 56 dX1_addTest_49 (by decide)  (fun h49 => ?_) (fun h49 => ?_)
      · skip
        refine hv_iconst C dX1_addTest_56 ?_
        refine zc_iast C K (f := (τ 103)) (16 * ((τ 100 0).toNat) + 4 * ((τ 102 (τ 100 0).toNat).toNat)) (cv_k103 hk) (cv_s103 hk (16 * ((τ 100 0).toNat) + 4 * ((τ 102 (τ 100 0).toNat).toNat)) 0) (by omega) (by omega) (by decide) dX1_addTest_57 ?_
        refine zk_st (τ2 := sA τ 103 (ua (τ 103) (16 * ((τ 100 0).toNat) + 4 * ((τ 102 (τ 100 0).toNat).toNat)) 0)) (by rw [u2_sA]; first | done | rfl) ?_
        refine hv_aload_n C 0 1 dX1_addTest_58 rfl rfl ?_
        refine zc_get C K (v := .ref (pk + 3)) 3 rfl hu_2 (by decide) (cv_k100 hk) rfl fl_X1_18 rfl dX1_addTest_59 ?_
        refine hv_iload C 5 0 dX1_addTest_62 rfl ?_
        refine hv_iconst C dX1_addTest_64 ?_
        refine hv_iadd C dX1_addTest_65 ?_
        refine hv_iload_n C 2 3 dX1_addTest_66 rfl rfl ?_
        refine zc_iast C K (f := (ua (τ 103) (16 * ((τ 100 0).toNat) + 4 * ((τ 102 (τ 100 0).toNat).toNat)) 0)) ((16 * ((τ 100 0).toNat) + 4 * ((τ 102 (τ 100 0).toNat).toNat)) + 1) (cv_k103 hk) (cv_s103 hk ((16 * ((τ 100 0).toNat) + 4 * ((τ 102 (τ 100 0).toNat).toNat)) + 1) sb) (by omega) (by omega) (by decide) dX1_addTest_67 ?_
        refine zk_st (τ2 := sA τ 103 (ua (ua (τ 103) (16 * ((τ 100 0).toNat) + 4 * ((τ 102 (τ 100 0).toNat).toNat)) 0) ((16 * ((τ 100 0).toNat) + 4 * ((τ 102 (τ 100 0).toNat).toNat)) + 1) sb)) (by rw [u2_sA, sA_sA]; first | done | rfl) ?_
        refine hv_aload_n C 0 1 dX1_addTest_68 rfl rfl ?_
        refine zc_get C K (v := .ref (pk + 3)) 3 rfl hu_2 (by decide) (cv_k100 hk) rfl fl_X1_18 rfl dX1_addTest_69 ?_
        refine hv_iload C 5 0 dX1_addTest_72 rfl ?_
        refine hv_iconst C dX1_addTest_74 ?_
        refine hv_iadd C dX1_addTest_75 ?_
        refine hv_iload_n C 3 4 dX1_addTest_76 rfl rfl ?_
        refine zc_iast C K (f := (ua (ua (τ 103) (16 * ((τ 100 0).toNat) + 4 * ((τ 102 (τ 100 0).toNat).toNat)) 0) ((16 * ((τ 100 0).toNat) + 4 * ((τ 102 (τ 100 0).toNat).toNat)) + 1) sb)) ((16 * ((τ 100 0).toNat) + 4 * ((τ 102 (τ 100 0).toNat).toNat)) + 2) (cv_k103 hk) (cv_s103 hk ((16 * ((τ 100 0).toNat) + 4 * ((τ 102 (τ 100 0).toNat).toNat)) + 2) sg) (by omega) (by omega) (by decide) dX1_addTest_77 ?_
        refine zk_st (τ2 := sA τ 103 (ua (ua (ua (τ 103) (16 * ((τ 100 0).toNat) + 4 * ((τ 102 (τ 100 0).toNat).toNat)) 0) ((16 * ((τ 100 0).toNat) + 4 * ((τ 102 (τ 100 0).toNat).toNat)) + 1) sb) ((16 * ((τ 100 0).toNat) + 4 * ((τ 102 (τ 100 0).toNat).toNat)) + 2) sg)) (by rw [u2_sA, sA_sA]; first | done | rfl) ?_
        refine hv_aload_n C 0 1 dX1_addTest_78 rfl rfl ?_
        refine zc_get C K (v := .ref (pk + 3)) 3 rfl hu_2 (by decide) (cv_k100 hk) rfl fl_X1_18 rfl dX1_addTest_79 ?_
        refine hv_iload C 5 0 dX1_addTest_82 rfl ?_
        refine hv_iconst C dX1_addTest_84 ?_
        refine hv_iadd C dX1_addTest_85 ?_
        refine hv_iload C 4 5 dX1_addTest_86 rfl ?_
        refine zc_iast C K (f := (ua (ua (ua (τ 103) (16 * ((τ 100 0).toNat) + 4 * ((τ 102 (τ 100 0).toNat).toNat)) 0) ((16 * ((τ 100 0).toNat) + 4 * ((τ 102 (τ 100 0).toNat).toNat)) + 1) sb) ((16 * ((τ 100 0).toNat) + 4 * ((τ 102 (τ 100 0).toNat).toNat)) + 2) sg)) ((16 * ((τ 100 0).toNat) + 4 * ((τ 102 (τ 100 0).toNat).toNat)) + 3) (cv_k103 hk) (cv_s103 hk ((16 * ((τ 100 0).toNat) + 4 * ((τ 102 (τ 100 0).toNat).toNat)) + 3) nu) (by omega) (by omega) (by decide) dX1_addTest_88 ?_
        refine zk_st (τ2 := sA τ 103 (ua (ua (ua (ua (τ 103) (16 * ((τ 100 0).toNat) + 4 * ((τ 102 (τ 100 0).toNat).toNat)) 0) ((16 * ((τ 100 0).toNat) + 4 * ((τ 102 (τ 100 0).toNat).toNat)) + 1) sb) ((16 * ((τ 100 0).toNat) + 4 * ((τ 102 (τ 100 0).toNat).toNat)) + 2) sg) ((16 * ((τ 100 0).toNat) + 4 * ((τ 102 (τ 100 0).toNat).toNat)) + 3) nu)) (by rw [u2_sA, sA_sA]; first | done | rfl) ?_
        refine hv_aload_n C 0 1 dX1_addTest_89 rfl rfl ?_
        refine zc_get C K (v := .ref (pk + 2)) 2 rfl hu_2 (by decide) (cv_k100 hk) rfl fl_X1_15 rfl dX1_addTest_90 ?_
        refine hv_aload_n C 0 1 dX1_addTest_93 rfl rfl ?_
        refine zc_get C K (v := .int (iz (τ 100 0))) 0 rfl hu_2 (by decide) (cv_k100 hk) rfl fl_X1_21 rfl dX1_addTest_94 ?_
        refine hv_dup2 C dX1_addTest_97 rfl rfl ?_
        refine zc_iald C K (f := (τ 102)) (((τ 100 0) : Int)).toNat (cv_k102 hk) (by omega) (by omega) (by decide) dX1_addTest_98 ?_
        refine hv_as (τ 102 (((τ 100 0) : Int)).toNat) rfl ?_
        refine hv_iconst C dX1_addTest_99 ?_
        refine hv_iadd C dX1_addTest_100 ?_
        refine zc_iast C K (f := (τ 102)) (((τ 100 0) : Int)).toNat (cv_k102 hk) (cv_s102 hk (((τ 100 0) : Int)).toNat ((τ 102 (((τ 100 0) : Int)).toNat) + 1)) (by omega) (by omega) (by decide) dX1_addTest_101 ?_
        refine zk_st (τ2 := sA (sA τ 102 (ua (τ 102) (((τ 100 0) : Int)).toNat ((τ 102 (((τ 100 0) : Int)).toNat) + 1))) 103 (ua (ua (ua (ua (τ 103) (16 * ((τ 100 0).toNat) + 4 * ((τ 102 (τ 100 0).toNat).toNat)) 0) ((16 * ((τ 100 0).toNat) + 4 * ((τ 102 (τ 100 0).toNat).toNat)) + 1) sb) ((16 * ((τ 100 0).toNat) + 4 * ((τ 102 (τ 100 0).toNat).toNat)) + 2) sg) ((16 * ((τ 100 0).toNat) + 4 * ((τ 102 (τ 100 0).toNat).toNat)) + 3) nu)) (by rw [u2_sA, sA_comm (j := 103) (k := 102) (by decide)]; first | done | rfl) ?_
        refine hv_iconst C dX1_addTest_102 ?_
        exact zk_zret C hr hlk ((xb_t (decide_eq_true (by unfold rmT; omega))).symm) (by unfold atS rmT rwT; first | (rw [if_neg (by omega)]; done) | (rw [if_pos (by omega)]; first | rfl | (cases nt <;> first | rfl | contradiction))) dX1_addTest_103
      · skip
        refine hv_iconst C dX1_addTest_52 ?_
        refine hv_goto C 57 dX1_addTest_53 (by decide) ?_
        refine zc_iast C K (f := (τ 103)) (16 * ((τ 100 0).toNat) + 4 * ((τ 102 (τ 100 0).toNat).toNat)) (cv_k103 hk) (cv_s103 hk (16 * ((τ 100 0).toNat) + 4 * ((τ 102 (τ 100 0).toNat).toNat)) 1) (by omega) (by omega) (by decide) dX1_addTest_57 ?_
        refine zk_st (τ2 := sA τ 103 (ua (τ 103) (16 * ((τ 100 0).toNat) + 4 * ((τ 102 (τ 100 0).toNat).toNat)) 1)) (by rw [u2_sA]; first | done | rfl) ?_
        refine hv_aload_n C 0 1 dX1_addTest_58 rfl rfl ?_
        refine zc_get C K (v := .ref (pk + 3)) 3 rfl hu_2 (by decide) (cv_k100 hk) rfl fl_X1_18 rfl dX1_addTest_59 ?_
        refine hv_iload C 5 0 dX1_addTest_62 rfl ?_
        refine hv_iconst C dX1_addTest_64 ?_
        refine hv_iadd C dX1_addTest_65 ?_
        refine hv_iload_n C 2 3 dX1_addTest_66 rfl rfl ?_
        refine zc_iast C K (f := (ua (τ 103) (16 * ((τ 100 0).toNat) + 4 * ((τ 102 (τ 100 0).toNat).toNat)) 1)) ((16 * ((τ 100 0).toNat) + 4 * ((τ 102 (τ 100 0).toNat).toNat)) + 1) (cv_k103 hk) (cv_s103 hk ((16 * ((τ 100 0).toNat) + 4 * ((τ 102 (τ 100 0).toNat).toNat)) + 1) sb) (by omega) (by omega) (by decide) dX1_addTest_67 ?_
        refine zk_st (τ2 := sA τ 103 (ua (ua (τ 103) (16 * ((τ 100 0).toNat) + 4 * ((τ 102 (τ 100 0).toNat).toNat)) 1) ((16 * ((τ 100 0).toNat) + 4 * ((τ 102 (τ 100 0).toNat).toNat)) + 1) sb)) (by rw [u2_sA, sA_sA]; first | done | rfl) ?_
        refine hv_aload_n C 0 1 dX1_addTest_68 rfl rfl ?_
        refine zc_get C K (v := .ref (pk + 3)) 3 rfl hu_2 (by decide) (cv_k100 hk) rfl fl_X1_18 rfl dX1_addTest_69 ?_
        refine hv_iload C 5 0 dX1_addTest_72 rfl ?_
        refine hv_iconst C dX1_addTest_74 ?_
        refine hv_iadd C dX1_addTest_75 ?_
        refine hv_iload_n C 3 4 dX1_addTest_76 rfl rfl ?_
        refine zc_iast C K (f := (ua (ua (τ 103) (16 * ((τ 100 0).toNat) + 4 * ((τ 102 (τ 100 0).toNat).toNat)) 1) ((16 * ((τ 100 0).toNat) + 4 * ((τ 102 (τ 100 0).toNat).toNat)) + 1) sb)) ((16 * ((τ 100 0).toNat) + 4 * ((τ 102 (τ 100 0).toNat).toNat)) + 2) (cv_k103 hk) (cv_s103 hk ((16 * ((τ 100 0).toNat) + 4 * ((τ 102 (τ 100 0).toNat).toNat)) + 2) sg) (by omega) (by omega) (by decide) dX1_addTest_77 ?_
        refine zk_st (τ2 := sA τ 103 (ua (ua (ua (τ 103) (16 * ((τ 100 0).toNat) + 4 * ((τ 102 (τ 100 0).toNat).toNat)) 1) ((16 * ((τ 100 0).toNat) + 4 * ((τ 102 (τ 100 0).toNat).toNat)) + 1) sb) ((16 * ((τ 100 0).toNat) + 4 * ((τ 102 (τ 100 0).toNat).toNat)) + 2) sg)) (by rw [u2_sA, sA_sA]; first | done | rfl) ?_
        refine hv_aload_n C 0 1 dX1_addTest_78 rfl rfl ?_
        refine zc_get C K (v := .ref (pk + 3)) 3 rfl hu_2 (by decide) (cv_k100 hk) rfl fl_X1_18 rfl dX1_addTest_79 ?_
        refine hv_iload C 5 0 dX1_addTest_82 rfl ?_
        refine hv_iconst C dX1_addTest_84 ?_
        refine hv_iadd C dX1_addTest_85 ?_
        refine hv_iload C 4 5 dX1_addTest_86 rfl ?_
        refine zc_iast C K (f := (ua (ua (ua (τ 103) (16 * ((τ 100 0).toNat) + 4 * ((τ 102 (τ 100 0).toNat).toNat)) 1) ((16 * ((τ 100 0).toNat) + 4 * ((τ 102 (τ 100 0).toNat).toNat)) + 1) sb) ((16 * ((τ 100 0).toNat) + 4 * ((τ 102 (τ 100 0).toNat).toNat)) + 2) sg)) ((16 * ((τ 100 0).toNat) + 4 * ((τ 102 (τ 100 0).toNat).toNat)) + 3) (cv_k103 hk) (cv_s103 hk ((16 * ((τ 100 0).toNat) + 4 * ((τ 102 (τ 100 0).toNat).toNat)) + 3) nu) (by omega) (by omega) (by decide) dX1_addTest_88 ?_
        refine zk_st (τ2 := sA τ 103 (ua (ua (ua (ua (τ 103) (16 * ((τ 100 0).toNat) + 4 * ((τ 102 (τ 100 0).toNat).toNat)) 1) ((16 * ((τ 100 0).toNat) + 4 * ((τ 102 (τ 100 0).toNat).toNat)) + 1) sb) ((16 * ((τ 100 0).toNat) + 4 * ((τ 102 (τ 100 0).toNat).toNat)) + 2) sg) ((16 * ((τ 100 0).toNat) + 4 * ((τ 102 (τ 100 0).toNat).toNat)) + 3) nu)) (by rw [u2_sA, sA_sA]; first | done | rfl) ?_
        refine hv_aload_n C 0 1 dX1_addTest_89 rfl rfl ?_
        refine zc_get C K (v := .ref (pk + 2)) 2 rfl hu_2 (by decide) (cv_k100 hk) rfl fl_X1_15 rfl dX1_addTest_90 ?_
        refine hv_aload_n C 0 1 dX1_addTest_93 rfl rfl ?_
        refine zc_get C K (v := .int (iz (τ 100 0))) 0 rfl hu_2 (by decide) (cv_k100 hk) rfl fl_X1_21 rfl dX1_addTest_94 ?_
        refine hv_dup2 C dX1_addTest_97 rfl rfl ?_
        refine zc_iald C K (f := (τ 102)) (((τ 100 0) : Int)).toNat (cv_k102 hk) (by omega) (by omega) (by decide) dX1_addTest_98 ?_
        refine hv_as (τ 102 (((τ 100 0) : Int)).toNat) rfl ?_
        refine hv_iconst C dX1_addTest_99 ?_
        refine hv_iadd C dX1_addTest_100 ?_
        refine zc_iast C K (f := (τ 102)) (((τ 100 0) : Int)).toNat (cv_k102 hk) (cv_s102 hk (((τ 100 0) : Int)).toNat ((τ 102 (((τ 100 0) : Int)).toNat) + 1)) (by omega) (by omega) (by decide) dX1_addTest_101 ?_
        refine zk_st (τ2 := sA (sA τ 102 (ua (τ 102) (((τ 100 0) : Int)).toNat ((τ 102 (((τ 100 0) : Int)).toNat) + 1))) 103 (ua (ua (ua (ua (τ 103) (16 * ((τ 100 0).toNat) + 4 * ((τ 102 (τ 100 0).toNat).toNat)) 1) ((16 * ((τ 100 0).toNat) + 4 * ((τ 102 (τ 100 0).toNat).toNat)) + 1) sb) ((16 * ((τ 100 0).toNat) + 4 * ((τ 102 (τ 100 0).toNat).toNat)) + 2) sg) ((16 * ((τ 100 0).toNat) + 4 * ((τ 102 (τ 100 0).toNat).toNat)) + 3) nu)) (by rw [u2_sA, sA_comm (j := 103) (k := 102) (by decide)]; first | done | rfl) ?_
        refine hv_iconst C dX1_addTest_102 ?_
        exact zk_zret C hr hlk ((xb_t (decide_eq_true (by unfold rmT; omega))).symm) (by unfold atS rmT rwT; first | (rw [if_neg (by omega)]; done) | (rw [if_pos (by omega)]; first | rfl | (cases nt <;> first | rfl | contradiction))) dX1_addTest_103
    · skip
      refine hv_iconst C dX1_addTest_22 ?_
      exact zk_zret C hr hlk ((xb_f (decide_eq_false (by unfold rmT; omega))).symm) (by unfold atS rmT rwT; first | (rw [if_neg (by omega)]; done) | (rw [if_pos (by omega)]; first | rfl | (cases nt <;> first | rfl | contradiction))) dX1_addTest_23
theorem dX1_addLine_0 : decode cX1_addLine 0 = .ok (.aload_n 0, 1) := by decide +kernel
theorem dX1_addLine_1 : decode cX1_addLine 1 = .ok (.getfield 21, 3) := by decide +kernel
theorem dX1_addLine_4 : decode cX1_addLine 4 = .ok (.bipush 16, 2) := by decide +kernel
theorem dX1_addLine_6 : decode cX1_addLine 6 = .ok (.if_icmp .ge 23, 3) := by decide +kernel
theorem dX1_addLine_9 : decode cX1_addLine 9 = .ok (.aload_n 0, 1) := by decide +kernel
theorem dX1_addLine_10 : decode cX1_addLine 10 = .ok (.getfield 9, 3) := by decide +kernel
theorem dX1_addLine_13 : decode cX1_addLine 13 = .ok (.aload_n 0, 1) := by decide +kernel
theorem dX1_addLine_14 : decode cX1_addLine 14 = .ok (.getfield 21, 3) := by decide +kernel
theorem dX1_addLine_17 : decode cX1_addLine 17 = .ok (.iload_n 1, 1) := by decide +kernel
theorem dX1_addLine_18 : decode cX1_addLine 18 = .ok (.iastore, 1) := by decide +kernel
theorem dX1_addLine_19 : decode cX1_addLine 19 = .ok (.aload_n 0, 1) := by decide +kernel
theorem dX1_addLine_20 : decode cX1_addLine 20 = .ok (.dup, 1) := by decide +kernel
theorem dX1_addLine_21 : decode cX1_addLine 21 = .ok (.getfield 21, 3) := by decide +kernel
theorem dX1_addLine_24 : decode cX1_addLine 24 = .ok (.iconst 1, 1) := by decide +kernel
theorem dX1_addLine_25 : decode cX1_addLine 25 = .ok (.iadd, 1) := by decide +kernel
theorem dX1_addLine_26 : decode cX1_addLine 26 = .ok (.putfield 21, 3) := by decide +kernel
theorem dX1_addLine_29 : decode cX1_addLine 29 = .ok (.return_, 1) := by decide +kernel
set_option maxRecDepth 100000 in
set_option maxHeartbeats 4000000 in
theorem k_X1_addLine (l : Launch) {D : va_G} {ar : Nat → ClassId} {B : Nat → Prop} {b n : Nat} {w0 : zcW} {pk : Nat} (τ : Nat → Nat → Int) (d9 : Int) (hk : b + 47 ≤ pk) (hI : RI9 pk τ) : zk_M l D ar B b pk w0 n yX1_addLine cX1_addLine 2 none 0 0 [.ref pk, .int (iz d9)] τ none (alT τ d9) := by
  refine zc_start (own := RX1) (by decide +kernel) rfl (Nat.le_of_ble_eq_true rfl) ?_
  intro p e s m args below meth c C K hr hlk hnam
  obtain ⟨i1, i2, i3, i4, i5, i6, i7⟩ := hI
  refine hv_aload_n C 0 0 dX1_addLine_0 rfl rfl ?_
  refine zc_get C K (v := .int (iz (τ 100 0))) 0 rfl hu_2 (by decide) (cv_k100 hk) rfl fl_X1_21 rfl dX1_addLine_1 ?_
  refine hv_bipush C dX1_addLine_4 (by decide) ?_
  refine hv_icmp_ge C 29 dX1_addLine_6 (by decide) (by omega) (by omega) (fun h6 => ?_) (fun h6 => ?_)
  · skip
    exact zk_vret C hr hlk (by unfold alT; first | (rw [if_neg (by omega)]; done) | (rw [if_pos (by omega)]; done)) dX1_addLine_29
  · skip
    refine hv_aload_n C 0 0 dX1_addLine_9 rfl rfl ?_
    refine zc_get C K (v := .ref (pk + 1)) 1 rfl hu_2 (by decide) (cv_k100 hk) rfl fl_X1_9 rfl dX1_addLine_10 ?_
    refine hv_aload_n C 0 0 dX1_addLine_13 rfl rfl ?_
    refine zc_get C K (v := .int (iz (τ 100 0))) 0 rfl hu_2 (by decide) (cv_k100 hk) rfl fl_X1_21 rfl dX1_addLine_14 ?_
    refine hv_iload_n C 1 1 dX1_addLine_17 rfl rfl ?_
    refine zc_iast C K (f := (τ 101)) (((τ 100 0) : Int)).toNat (cv_k101 hk) (cv_s101 hk (((τ 100 0) : Int)).toNat d9) (by omega) (by omega) (by decide) dX1_addLine_18 ?_
    refine zk_st (τ2 := sA τ 101 (ua (τ 101) (((τ 100 0) : Int)).toNat d9)) (by rw [u2_sA]; first | done | rfl) ?_
    refine hv_aload_n C 0 0 dX1_addLine_19 rfl rfl ?_
    refine hv_dup C dX1_addLine_20 rfl ?_
    refine zc_get C K (v := .int (iz (τ 100 0))) 0 rfl hu_2 (by decide) (cv_k100 hk) rfl fl_X1_21 rfl dX1_addLine_21 ?_
    refine hv_iconst C dX1_addLine_24 ?_
    refine hv_iadd C dX1_addLine_25 ?_
    refine zc_put C K 0 rfl hu_2 tyX1 tyX1_ok nmX1 (by decide) (cv_k100 hk) (cv_s100 hk 0 ((τ 100 0) + 1)) fl_X1_21 rfl rfl (ty := .int) (by decide +kernel) rfl rfl (Nat.le_of_ble_eq_true rfl) dX1_addLine_26 ?_
    refine zk_st (τ2 := sA (sA τ 100 (ua (τ 100) 0 ((τ 100 0) + 1))) 101 (ua (τ 101) (((τ 100 0) : Int)).toNat d9)) (by rw [u2_sA, sA_comm (j := 101) (k := 100) (by decide)]; first | done | rfl) ?_
    exact zk_vret C hr hlk (by unfold alT; first | (rw [if_neg (by omega)]; done) | (rw [if_pos (by omega)]; done)) dX1_addLine_29
