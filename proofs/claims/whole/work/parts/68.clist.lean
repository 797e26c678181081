theorem sm_mod {s : State} {args : Array Value} (h : Cond.sameField "java/util/ArrayList" "java/util/AbstractList" "modCount" "I" ∈ hk_tb → (Cond.sameField "java/util/ArrayList" "java/util/AbstractList" "modCount" "I").before args s = true) : ∀ x, s.fieldFound? "java/util/AbstractList" "modCount" "I" = some x → s.fieldFound? "java/util/ArrayList" "modCount" "I" = some x := fun x hx => u_same (h (hk_tq1 59 (by decide +kernel) (by decide +kernel))) x hx
/-- an object that may stand in a list -/
def okE (w : zcW) (y : Nat) : Prop := ∃ (ci : Nat) (r : vw_C) (vs : List Value), w y = some (.inr (ci, vs)) ∧ vwCl[ci]? = some r ∧ (r.1, "java/lang/Object") ∈ nwC
section ZL
variable {p : Program} {l : Launch} {e : Env} {R : Room} {s : State} {m : MethodId} {args : Array Value} {below : List Frame} {meth : Method} {c : Code} {nL : Nat} {Q : State → Prop} {pc : Nat} {loc : List (Nat × Value)} {stk : List Value} {cc : ByteArray} {D : va_G} {ar : Nat → ClassId} {B : Nat → Prop} {w : zcW} {n : Nat} {H0 : Heap} {own : String} {cells slots : Nat} {o : olP}
theorem hv_widen {FR : Nat → Prop} {HI : Heap → Prop} (k9 n9 : Nat) (h1 : cells ≤ k9) (h2 : slots ≤ n9) (k : hvV p l e R s m args below meth c nL FR k9 n9 Q HI pc loc stk) : hvV p l e R s m args below meth c nL FR cells slots Q HI pc loc stk := fun H locs ls a1 a2 a3 => W.widen h1 h2 (k H locs ls a1 a2 a3)
theorem zc_getM (C : CallFix p m c cc nL s args hk_tb "java/util/ArrayList") (K : clK D ar s) {index a : Nat} {fs : List Value} {v : Value} (hw : w a = some (.inr (0, fs))) (hv : fs[0]? = some v) (hl : Cond.fieldLink "java/util/ArrayList" index "java/util/ArrayList" "modCount" "I" ∈ hk_tb) (d : decode cc pc = .ok (.getfield index, 3)) (k : hvV p l e R s m args below meth c nL B cells slots Q (zc_I D B w n H0) (pc + 3) loc (v :: stk)) : hvV p l e R s m args below meth c nL B cells slots Q (zc_I D B w n H0) pc loc (.ref a :: stk) := fun H locs ls h1 h2 h3 => va_get (D := D) (cl := vwCl) C.1 C.2.1 C.2.2.2.2 hu_0 C.2.2.2.1 K.1 (zc_1 h1.1 hw) 0 rfl (rfl : vwCl[0]? = some (RJx4a65c, TJx4a65c, 3)) 0 (by decide) (C.2.2.2.2 _ hl) (sm_mod (fun q => C.2.2.2.2 _ q)) hv d (k H locs ls h1 h2 h3)
theorem zc_putM (C : CallFix p m c cc nL s args hk_tb "java/util/ArrayList") (K : clK D ar s) {index a : Nat} {fs : List Value} {x : Int32} {w2 : zcW} (hw : w a = some (.inr (0, fs))) (h9 : zc_u w a (.inr (0, fs.set 0 (.int x))) = w2) (hl : Cond.fieldLink "java/util/ArrayList" index "java/util/ArrayList" "modCount" "I" ∈ hk_tb) (hlen : 0 < fs.length) (d : decode cc pc = .ok (.putfield index, 3)) (k : hvV p l e R s m args below meth c nL B cells slots Q (zc_I D B w2 n H0) (pc + 3) loc stk) : hvV p l e R s m args below meth c nL B cells slots Q (zc_I D B w n H0) pc loc (.int x :: .ref a :: stk) := by
  subst h9
  intro H locs ls h1 h2 h3
  have hc : vwCl[0]? = some (RJx4a65c, TJx4a65c, 3) := rfl
  have hap := va_apart (own := "java/util/ArrayList") C.2.2.2.2 hu_0 tyJx4a65c tyJx4a65c_ok nmJx4a65c K.1 hc
  obtain ⟨r, h1', cell, q1, q2, q3, q4⟩ := h1.1 a _ hw
  have hr' : r = (RJx4a65c, TJx4a65c, 3) := Option.some.inj (h1'.symm.trans hc)
  subst hr'
  obtain ⟨hS, hfc, kC, hkC, hkind⟩ := K.1.1 0 _ hc
  obtain ⟨cf, kf, fi, fd, hi, hsl⟩ := hS 0 (by decide)
  have hlay := C.2.2.2.2 _ (hu_0 _ (u_in_lay (by decide : 0 < 3)))
  unfold u_lay at hlay
  rw [if_neg (by decide)] at hlay
  have hst := (u_facts hfc hkC (u_lays C.2.2.2.2 hu_0 (by decide : 0 < 3)) hi).1
  have h6 := u_store hfc hkC hkind hlay hi (ty := .int) (v := .int x) (by decide +kernel) rfl rfl
  refine W.putK C.1 C.2.1 (f := fd) ⟨C.2.2.2.1, C.2.2.2.2 _ hl, ⟨_, _, _, sm_mod (fun q => C.2.2.2.2 _ q) _ hi⟩, hst⟩ (by rw [q2]; exact h6) q1 q3 (by rw [hsl]; exact k2_hasslot (q4 0 (by decide))) rfl rfl d fun H' e1 e2 e3 => ?_
  rw [hsl] at e1 ⊢
  refine k H' _ ls (h1.set hw ⟨_, hc, t_OB.to (V := updV (vp_V fs) 0 (.int x)) ⟨_, e1, q2, q3, t_set q4 hap (by decide) (.int x)⟩ (fun j _ => vp_updV_set hlen (.int x) j)⟩ e2 e3) (fun x hx => ?_) h3
  rcases List.mem_append.mp hx with h | h
  · exact h2 x h
  · rw [List.mem_singleton.mp h]; exact h1.2.2.1.1 a _ hw
theorem zc_any {H : Heap} (K : clK D ar s) (h : zc_I D B w n H0 H) {y : Nat} (hy : okE w y) : va_Any "java/lang/Object" s H y := by
  obtain ⟨ci, r, vs, h1, h2, h3⟩ := hy
  obtain ⟨r', hr', cellV, g1, g2, g3, -⟩ := h.1 y _ h1
  have hcls := (K.1.1 ci r h2).2
  obtain ⟨kC, hkC, -⟩ := hcls.2
  refine ⟨cellV, g1, by rw [g3]; rfl, ⟨kC, by rw [g2]; exact hkC⟩, fun comp hcomp => ?_⟩
  obtain ⟨c0, t1, f1, f2, f3⟩ := Cond.castable_spec (va_Nw.use (A := #[]) rfl (K.2.2.1 _ h3))
  cases hcls.1.symm.trans f1
  cases hcomp.symm.trans f2
  rw [g2]; exact f3
theorem zc_cpq (C : CallFix p m c cc nL s args hk_tb own) (K : clK D ar s) {a0 a n0 n1 idx : Nat} {f g : Nat → Option Nat} {w2 : zcW} {z9 : Int} (N : Nat) (hz9 : z9 = (N : Int)) (hw0 : w a0 = some (.inl (ar 2, n0, .inr (.inr (.inr (.inr f)))))) (hw1 : w a = some (.inl (ar 2, n1, .inr (.inr (.inr (.inr g)))))) (hn0 : N ≤ n0) (hn1 : N ≤ n1) (hN : N ≤ 2147483647) (hel : ∀ i, i < N → ∀ y, f i = some y → okE w y) (h9 : zc_u w a (.inl (ar 2, n1, .inr (.inr (.inr (.inr (fun q => if q < N then f q else g q)))))) = w2) (hl : Cond.methodLink own idx arraycopyName ∈ hk_tb) (hfr : 1 ≤ R.frames) (hlo : (stk.map fun v => v.category).sum + 18 ≤ R.locals) (d : decode cc pc = .ok (.invokestatic idx, 3)) (k : hvV p l e R s m args below meth c nL B cells slots Q (zc_I D B w2 n H0) (pc + 3) loc stk) : hvV p l e R s m args below meth c nL B cells slots Q (zc_I D B w n H0) pc loc (.int (iz z9) :: .int (iz 0) :: .ref a :: .int (iz 0) :: .ref a0 :: stk) := by
  subst h9
  subst hz9
  intro H locs ls h1 h2 h3 T hT X
  have z0 : (iz 0).toNatClampNeg = 0 := iz_clamp (by omega) (by omega)
  have zN : (iz (N : Int)).toNatClampNeg = N := by rw [iz_clamp (by omega) (by omega)]; omega
  have i0 : (iz 0).toInt = 0 := iz_toInt ⟨by omega, by omega⟩
  have iN : (iz (N : Int)).toInt = (N : Int) := iz_toInt ⟨by omega, by omega⟩
  have ng0 : ¬ iz 0 < 0 := by decide
  have ngN : ¬ iz (N : Int) < 0 := by
    intro q
    have q2 := Int32.lt_iff_toInt_lt.mp q
    rw [iN] at q2
    have : (0 : Int32).toInt = 0 := rfl
    omega
  have hc0 : H[a0]? = some (vp_cell (ar 2) (n0, .inr (.inr (.inr (.inr f))))) := h1.1 a0 _ hw0
  have hc1 : H[a]? = some (vp_cell (ar 2) (n1, .inr (.inr (.inr (.inr g))))) := h1.1 a _ hw1
  obtain ⟨-, k0, hk0, cm0, hkk0⟩ := (K.1.2 2 _ rfl).1 n0 (fun j => va_rf (f j))
  obtain ⟨-, k1, hk1, cm1, hkk1⟩ := (K.1.2 2 _ rfl).1 n1 (fun j => va_rf (g j))
  obtain ⟨vm', X', step⟩ := X.arraycopy C.1 C.2.2.2.1 (C.2.2.2.2 _ hl) (C.2.2.2.2 _ ac_nat) (C.2.2.2.2 _ ac_st) (C.2.2.2.2 _ ac_in) (src := a0) (dst := a) (cs := vp_cell (ar 2) (n0, .inr (.inr (.inr (.inr f))))) (cd := vp_cell (ar 2) (n1, .inr (.inr (.inr (.inr g))))) (srcPos := iz 0) (destPos := iz 0) (n := iz (N : Int)) (by rw [hT]; exact hc0) (by rw [hT]; exact hc1)
    (fun _ h => by cases h) (fun _ h => by cases h) (fun h => by cases h) (fun h => by cases h) hk0 hk1 hkk0 hkk1 rfl ng0 ng0 ngN
    (by rw [i0, iN]; show ¬ _ > ((arrV (ar 2) n0 (fun j => va_rf (f j))).slots.size : Int); rw [arrV_size]; omega)
    (by rw [i0, iN]; show ¬ _ > ((arrV (ar 2) n1 (fun j => va_rf (g j))).slots.size : Int); rw [arrV_size]; omega)
    (fun vm₁ hal i hi => by
      rw [zN] at hi
      have e : (vp_cell (ar 2) (n0, .inr (.inr (.inr (.inr f))))).slots.getD ((iz 0).toNatClampNeg + i) .null = va_rf (f i) := by
        show (arrV (ar 2) n0 (fun j => va_rf (f j))).slots.getD _ _ = _
        rw [z0, Nat.zero_add, Array.getD_eq_getD_getElem?, arrV_read _ _ (by omega)]
        rfl
      rw [e]
      cases hy : f i with
      | none => exact ⟨rfl, trivial⟩
      | some y =>
        obtain ⟨cellV, g1, g2, ⟨kC, hkC⟩, hasg⟩ := zc_any K h1 (hel i hi y hy)
        obtain ⟨kA, comp, r1, r2, r3, -⟩ := (K.1.2 2 _ rfl).2
        cases hk1.symm.trans r1
        cases hkk1.symm.trans r2
        obtain ⟨kE, hkE, -⟩ := Vm.findClass_spec r3
        obtain ⟨kC', hkC', -⟩ := hal.2.2 _ _ hkC
        obtain ⟨kE', hkE', -⟩ := hal.2.2 _ _ hkE
        refine ⟨rfl, cellV, (show T.heap[y]? = some cellV by rw [hT]; exact g1), (fun q h => by rw [h] at g2; cases g2), ⟨kC', hkC'⟩, ?_, ?_⟩
        · exact ⟨kE', hkE'⟩
        · show vm₁.assignable _ _ = true
          rw [hal.assignable]
          exact hasg _ r3)
    (g := F0 m pc ls (.int (iz (N : Int)) :: .int (iz 0) :: .ref a :: .int (iz 0) :: .ref a0 :: stk)) rfl (by rw [C.2.2.1]; exact h3.1) (rest := stk) rfl (by rw [C.2.1]; exact d) hfr (by show 2 * 0 + _ + (7 + 11) ≤ _; omega)
  have h4 : (iz 0).toNatClampNeg + (iz (N : Int)).toNatClampNeg ≤ n0 := by rw [z0, zN]; omega
  have e0 : copied (vp_cell (ar 2) (n0, .inr (.inr (.inr (.inr f))))) (vp_cell (ar 2) (n1, .inr (.inr (.inr (.inr g))))) (iz 0) (iz 0) (iz (N : Int)) = vp_cell (ar 2) (n1, .inr (.inr (.inr (.inr (va_cpy f g (iz 0).toNatClampNeg (iz 0).toNatClampNeg (iz (N : Int)).toNatClampNeg))))) := va_copied (fun z => va_rf z) (ar 2) (ar 2) f g h4
  have e1 : copied (vp_cell (ar 2) (n0, .inr (.inr (.inr (.inr f))))) (vp_cell (ar 2) (n1, .inr (.inr (.inr (.inr g))))) (iz 0) (iz 0) (iz (N : Int)) = vp_cell (ar 2) (n1, .inr (.inr (.inr (.inr (fun q => if q < N then f q else g q))))) := by
    rw [e0, z0, zN]
    have : va_cpy f g 0 0 N = fun q => if q < N then f q else g q := by
      funext q
      simp only [va_cpy]
      by_cases h : q < N
      · rw [if_pos (by omega), if_pos h]; congr 1; omega
      · rw [if_neg (by omega), if_neg h]
    rw [this]
  rw [e1] at X' step
  have hl2 : a < H.size := (Array.getElem?_eq_some_iff.mp hc1).1
  generalize hce : vp_cell (ar 2) (n1, .inr (.inr (.inr (.inr (fun q => if q < N then f q else g q))))) = ce at *
  have hheap : ((T.setVm vm').setCell a ce).heap = H.setIfInBounds a ce := by rw [← hT]; rfl
  have oq : ∀ q : Nat, q ≠ a → (H.setIfInBounds a ce)[q]? = H[q]? := fun q hq => by simp [Array.getElem?_setIfInBounds, Ne.symm hq]
  obtain ⟨t2, a1, b1⟩ := k _ _ ls (h1.set hw1 (show (H.setIfInBounds a ce)[a]? = some _ by rw [hce]; simp [Array.getElem?_setIfInBounds, hl2]) (by simp) oq) (fun x hx => by
      rcases List.mem_append.mp hx with h | h
      · exact h2 x h
      · obtain ⟨z, -, hz⟩ := List.mem_map.mp h
        rw [← hz]
        exact h1.2.2.1.1 a _ hw1) h3 _ hheap X'
  exact ⟨t2, step t2 a1, b1⟩
theorem zo_getC (C : CallFix p m c cc nL s args hk_tb own) (K : clK D ar s) (O : olk B o s) {a N idx : Nat} {f : Nat → Option Nat} (hw : w a = some (.inl (ar 2, N, .inr (.inr (.inr (.inr f)))))) (hl : Cond.methodLink own idx ⟨"java/lang/Object", "getClass", "()Ljava/lang/Class;"⟩ ∈ hk_tb) (hfr : 1 ≤ R.frames) (hlo : (stk.map fun v => v.category).sum + 14 ≤ R.locals) (d : decode cc pc = .ok (.invokevirtual idx, 3)) (k : hvV p l e R s m args below meth c nL B cells slots Q (zc_I D B w n H0) (pc + 3) loc (.ref o.2.2.2.2 :: stk)) : hvV p l e R s m args below meth c nL B cells slots Q (zc_I D B w n H0) pc loc (.ref a :: stk) := fun H locs ls h1 h2 h3 => va_getC C.1 C.2.1 (by rw [C.2.2.1]; exact h3.1.symm) C.2.2.2.1 (C.2.2.2.2 _ hl) (va_Dc.use O.2.2.2.1) (C.2.2.2.2 _ (hk_tq7 123 (by decide +kernel) (by decide +kernel))) (C.2.2.2.2 _ (hk_tq2 164 (by decide +kernel) (by decide +kernel))) (C.2.2.2.2 _ (hk_tq2 180 (by decide +kernel) (by decide +kernel))) O.2.2.1 ⟨_, h1.1 a _ hw, rfl, K.2.2.2.1.2.2.1⟩ hfr hlo d (k H locs ls h1 h2 h3)
theorem zo_ldcM (C : CallFix p m c cc nL s args hk_tb own) (O : olk B o s) {HI : Heap → Prop} {FR : Nat → Prop} {idx : Nat} (hl : Cond.classLink own idx "[Ljava/lang/Object;" ∈ hk_tb) (d : decode cc pc = .ok (.ldc idx, 2)) (k : hvV p l e R s m args below meth c nL FR cells slots Q HI (pc + 2) loc (.ref o.2.2.2.2 :: stk)) : hvV p l e R s m args below meth c nL FR cells slots Q HI pc loc stk := fun H locs ls h1 h2 h3 => va_ldcM C.1 C.2.1 C.2.2.2.1 (C.2.2.2.2 _ hl) O.2.2.1 d (k H locs ls h1 h2 h3)
theorem zg_callS {y : MethodName} {bytes : ByteArray} {maxL : Nat} {ret : Option FieldType} {fr lo idx mc ms : Nat} {Po : Option Value → zcW → Nat → Prop} (As rest : List Value) (C : CallFix p m c cc nL s args hk_tb own) (K : clK D ar s) (hM : zc_M l D ar B y bytes maxL ret fr lo mc ms (As) w n Po) (ck : zcS own y bytes maxL ret idx As.length) (hR : fr + 1 ≤ R.frames ∧ 8 + (maxL + 11) + lo ≤ R.locals) (hf : cells + mc ≤ R.cells ∧ slots + ms ≤ R.slots) (hs : stk = As.reverse ++ rest) (hW : (rest.map fun v => v.category).sum ≤ 8) (d : decode cc pc = .ok (.invokestatic idx, 3)) {r : Option Value} {w2 : zcW} {n2 : Nat} (hp : ∀ r' w' n', Po r' w' n' → r' = r ∧ w' = w2 ∧ n' = n2) (k : hvV p l e R s m args below meth c nL B (cells + mc) (slots + ms) Q (zc_I D B w2 n2 H0) (pc + 3) loc (r.toList ++ rest)) : hvV p l e R s m args below meth c nL B cells slots Q (zc_I D B w n H0) pc loc stk :=
  zc_callS As rest C K hM ck hR hf hs hW d (fun r' w' n' h => by obtain ⟨h1, h2, h3⟩ := hp r' w' n' h; subst h1; subst h2; subst h3; exact k)
theorem zg_callV {y : MethodName} {bytes : ByteArray} {maxL : Nat} {ret : Option FieldType} {fr lo idx mc ms a ci : Nat} {fs : List Value} {q : vw_C} {Po : Option Value → zcW → Nat → Prop} (As rest : List Value) (C : CallFix p m c cc nL s args hk_tb own) (K : clK D ar s) (hw : w a = some (.inr (ci, fs))) (hc : vwCl[ci]? = some q) (hM : zc_M l D ar B y bytes maxL ret fr lo mc ms (.ref a :: As) w n Po) (ck : zcV own q.1 y bytes maxL ret idx As.length) (hR : fr + 1 ≤ R.frames ∧ 8 + (maxL + 11) + lo ≤ R.locals) (hf : cells + mc ≤ R.cells ∧ slots + ms ≤ R.slots) (hs : stk = As.reverse ++ .ref a :: rest) (hW : (rest.map fun v => v.category).sum ≤ 8) (d : decode cc pc = .ok (.invokevirtual idx, 3)) {r : Option Value} {w2 : zcW} {n2 : Nat} (hp : ∀ r' w' n', Po r' w' n' → r' = r ∧ w' = w2 ∧ n' = n2) (k : hvV p l e R s m args below meth c nL B (cells + mc) (slots + ms) Q (zc_I D B w2 n2 H0) (pc + 3) loc (r.toList ++ rest)) : hvV p l e R s m args below meth c nL B cells slots Q (zc_I D B w n H0) pc loc stk :=
  zc_callV As rest C K hw hc hM ck hR hf hs hW d (fun r' w' n' h => by obtain ⟨h1, h2, h3⟩ := hp r' w' n' h; subst h1; subst h2; subst h3; exact k)
theorem zgo_callS {y : MethodName} {bytes : ByteArray} {maxL : Nat} {ret : Option FieldType} {fr lo idx mc ms : Nat} {Po : Option Value → zcW → Nat → Prop} (As rest : List Value) (C : CallFix p m c cc nL s args hk_tb own) (K : clK D ar s) (O : olk B o s) (hM : zo_M l D ar B o y bytes maxL ret fr lo mc ms (As) w n Po) (ck : zcS own y bytes maxL ret idx As.length) (hR : fr + 1 ≤ R.frames ∧ 8 + (maxL + 11) + lo ≤ R.locals) (hf : cells + mc ≤ R.cells ∧ slots + ms ≤ R.slots) (hs : stk = As.reverse ++ rest) (hW : (rest.map fun v => v.category).sum ≤ 8) (d : decode cc pc = .ok (.invokestatic idx, 3)) {r : Option Value} {w2 : zcW} {n2 : Nat} (hp : ∀ r' w' n', Po r' w' n' → r' = r ∧ w' = w2 ∧ n' = n2) (k : hvV p l e R s m args below meth c nL B (cells + mc) (slots + ms) Q (zc_I D B w2 n2 s.heap) (pc + 3) loc (r.toList ++ rest)) : hvV p l e R s m args below meth c nL B cells slots Q (zc_I D B w n s.heap) pc loc stk :=
  zo_callS As rest C K O hM ck hR hf hs hW d (fun r' w' n' h => by obtain ⟨h1, h2, h3⟩ := hp r' w' n' h; subst h1; subst h2; subst h3; exact k)
theorem zgo_callV {y : MethodName} {bytes : ByteArray} {maxL : Nat} {ret : Option FieldType} {fr lo idx mc ms a ci : Nat} {fs : List Value} {q : vw_C} {Po : Option Value → zcW → Nat → Prop} (As rest : List Value) (C : CallFix p m c cc nL s args hk_tb own) (K : clK D ar s) (O : olk B o s) (hw : w a = some (.inr (ci, fs))) (hc : vwCl[ci]? = some q) (hM : zo_M l D ar B o y bytes maxL ret fr lo mc ms (.ref a :: As) w n Po) (ck : zcV own q.1 y bytes maxL ret idx As.length) (hR : fr + 1 ≤ R.frames ∧ 8 + (maxL + 11) + lo ≤ R.locals) (hf : cells + mc ≤ R.cells ∧ slots + ms ≤ R.slots) (hs : stk = As.reverse ++ .ref a :: rest) (hW : (rest.map fun v => v.category).sum ≤ 8) (d : decode cc pc = .ok (.invokevirtual idx, 3)) {r : Option Value} {w2 : zcW} {n2 : Nat} (hp : ∀ r' w' n', Po r' w' n' → r' = r ∧ w' = w2 ∧ n' = n2) (k : hvV p l e R s m args below meth c nL B (cells + mc) (slots + ms) Q (zc_I D B w2 n2 s.heap) (pc + 3) loc (r.toList ++ rest)) : hvV p l e R s m args below meth c nL B cells slots Q (zc_I D B w n s.heap) pc loc stk :=
  zo_callV As rest C K O hw hc hM ck hR hf hs hW d (fun r' w' n' h => by obtain ⟨h1, h2, h3⟩ := hp r' w' n' h; subst h1; subst h2; subst h3; exact k)
end ZL
theorem zy_iret {p : Program} {l : Launch} {e : Env} {R : Room} {s : State} {m : MethodId} {args : Array Value} {below : List Frame} {meth : Method} {c : Code} {nL : Nat} {pc : Nat} {loc : List (Nat × Value)} {cc : ByteArray} {D : va_G} {B : Nat → Prop} {w : zcW} {n : Nat} {own : String} {cells slots : Nat} (C : CallFix p m c cc nL s args hk_tb own) (hr : meth.sig.returnType = some .int) (hlk : meth.locks = false) {x v : Int} (hx : x = v) (d : decode cc pc = .ok (.ireturn, 1)) : hvV p l e R s m args below meth c nL B cells slots (MQ below (zc_Q D B (fun r' w' n' => r' = some (.int (iz v)) ∧ w' = w ∧ n' = n)) args s cells slots B) (zc_I D B w n s.heap) pc loc [.int (iz x)] := by
  subst hx; exact zc_iret C hr hlk ⟨rfl, rfl, rfl⟩ d

set_option maxRecDepth 100000 in
set_option maxHeartbeats 4000000 in
theorem gk_J9_max_7cf53 (l : Launch) {D : va_G} {ar : Nat → ClassId} {B : Nat → Prop} {n : Nat} {w : zcW} (x : Int) (y : Int) (r_x : inI x) (r_y : inI y) : zc_M l D ar B yJ9_max_7cf53 cJ9_max_7cf53 2 (some .int) 0 0 0 0 [.int (iz x), .int (iz y)] w n (fun r' w' n' => r' = (some (.int (iz (if x < y then y else x)))) ∧ w' = w ∧ n' = n) := by
  refine zc_start (own := RJ9) (by decide +kernel) rfl (Nat.le_of_ble_eq_true rfl) ?_
  intro p e s m args below meth c C K hr hlk hnam
  refine hv_iload_n C 0 0 dJ9_max_7cf53_0 rfl rfl ?_
  refine hv_iload_n C 1 1 dJ9_max_7cf53_1 rfl rfl ?_
  refine hv_icmp_lt C 9 dJ9_max_7cf53_2 (by decide) (by omega) (by omega) (fun h2 => ?_) (fun h2 => ?_)
  · skip
    refine hv_iload_n C 1 1 dJ9_max_7cf53_9 rfl rfl ?_
    exact zy_iret C hr hlk (by first | exact if_p (by omega) rfl | exact if_n (by omega) rfl) dJ9_max_7cf53_10
  · skip
    refine hv_iload_n C 0 0 dJ9_max_7cf53_5 rfl rfl ?_
    refine hv_goto C 10 dJ9_max_7cf53_6 (by decide) ?_
    exact zy_iret C hr hlk (by first | exact if_p (by omega) rfl | exact if_n (by omega) rfl) dJ9_max_7cf53_10
set_option maxRecDepth 100000 in
set_option maxHeartbeats 4000000 in
theorem gk_J9_min_7cf53 (l : Launch) {D : va_G} {ar : Nat → ClassId} {B : Nat → Prop} {n : Nat} {w : zcW} (x : Int) (y : Int) (r_x : inI x) (r_y : inI y) : zc_M l D ar B yJ9_min_7cf53 cJ9_min_7cf53 2 (some .int) 0 0 0 0 [.int (iz x), .int (iz y)] w n (fun r' w' n' => r' = (some (.int (iz (if y < x then y else x)))) ∧ w' = w ∧ n' = n) := by
  refine zc_start (own := RJ9) (by decide +kernel) rfl (Nat.le_of_ble_eq_true rfl) ?_
  intro p e s m args below meth c C K hr hlk hnam
  refine hv_iload_n C 0 0 dJ9_min_7cf53_0 rfl rfl ?_
  refine hv_iload_n C 1 1 dJ9_min_7cf53_1 rfl rfl ?_
  refine hv_icmp_gt C 9 dJ9_min_7cf53_2 (by decide) (by omega) (by omega) (fun h2 => ?_) (fun h2 => ?_)
  · skip
    refine hv_iload_n C 1 1 dJ9_min_7cf53_9 rfl rfl ?_
    exact zy_iret C hr hlk (by first | exact if_p (by omega) rfl | exact if_n (by omega) rfl) dJ9_min_7cf53_10
  · skip
    refine hv_iload_n C 0 0 dJ9_min_7cf53_5 rfl rfl ?_
    refine hv_goto C 10 dJ9_min_7cf53_6 (by decide) ?_
    exact zy_iret C hr hlk (by first | exact if_p (by omega) rfl | exact if_n (by omega) rfl) dJ9_min_7cf53_10
