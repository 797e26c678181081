/-! cells that are made; old things that are read -/
theorem zc_I.push {D : va_G} {B : Nat → Prop} {w : zcW} {n : Nat} {H0 H H1 : Heap} {x : va_E} (h : zc_I D B w n H0 H) (he : va_at D vwCl (n, x) H1) (hz : H1.size = n + 1) (oq : ∀ q : Nat, q < n → H1[q]? = H[q]?) : zc_I D B (zc_u w n x) (n + 1) H0 H1 := by
  obtain ⟨hP, hs, hB, hF⟩ := h
  refine ⟨fun q y hq => ?_, hz, ⟨fun q y hq => ?_, fun q hq => hB.2 q (by omega)⟩, fun q hq => ?_⟩
  · unfold zc_u at hq
    by_cases e : q = n
    · rw [if_pos e] at hq; cases hq; rw [e]; exact he
    · rw [if_neg e] at hq
      have hl := (hP q y hq).lt
      rw [hs] at hl
      exact (hP q y hq).kept (oq q hl)
  · unfold zc_u at hq
    by_cases e : q = n
    · rw [e]; exact hB.2 n (Nat.le_refl _)
    · rw [if_neg e] at hq; exact hB.1 q y hq
  · have : q < n := Nat.lt_of_not_le (fun z => hq (hB.2 q z))
    rw [oq q this]; exact hF q hq
/-- what was there before, and nobody writes: the empty row of lists, the words' text -/
def olK (B : Nat → Prop) (tx : List Int32) (e0 sK sV mi : Nat) (U : State) : Prop :=
  va_Z "java/util/ArrayList" "DEFAULTCAPACITY_EMPTY_ELEMENTDATA" "[Ljava/lang/Object;" (.ref e0) B U U.heap ∧ va_T (.object "java/lang/Object") e0 0 (fun _ => .null) B U U.heap ∧ va_Mi "[Ljava/lang/Object;" mi U ∧ va_Dc U ∧
  vk_R "HookUps$Reader" 58 "if and not clear refuse pay sold summer slot power notice zone sort long week " sK U ∧ vk_S 1 [78] [tx] (fun _ => sK) (fun _ => sV) B U U.heap ∧ va_Z "java/lang/String" "COMPACT_STRINGS" "Z" (.int 1) B U U.heap ∧ va_Zq "jdk/internal/util/Preconditions" "SIOOBE_FORMATTER" "Ljava/util/function/BiFunction;" B U U.heap
theorem olK.warm {B : Nat → Prop} {tx : List Int32} {e0 sK sV mi : Nat} {s U : State} (hW : s.WarmedH U.vm) (hq : ∀ a : Nat, a < s.heap.size → ¬ B a → U.heap[a]? = s.heap[a]?) (h : olK B tx e0 sK sV mi s) : olK B tx e0 sK sV mi U :=
  ⟨(va_Z.moved hW.alike h.1).kept hq, (va_T.moved hW.alike h.2.1).kept hq, va_Mi.moved hW.alike h.2.2.1, va_Dc.moved hW.alike h.2.2.2.1, vk_R.warm hW h.2.2.2.2.1, (vk_S.moved hW.alike h.2.2.2.2.2.1).kept hq, (va_Z.moved hW.alike h.2.2.2.2.2.2.1).kept hq, (va_Zq.moved hW.alike h.2.2.2.2.2.2.2).kept hq⟩
theorem olK.blind {B : Nat → Prop} {tx : List Int32} {e0 sK sV mi : Nat} {s U : State} (hv : s.vm = U.vm) (hh : U.heap = s.heap) (h : olK B tx e0 sK sV mi s) : olK B tx e0 sK sV mi U := by
  have al : s.vm.Alike U.vm := by rw [hv]; exact Vm.Alike.refl _
  have hq : ∀ a : Nat, a < s.heap.size → ¬ B a → U.heap[a]? = s.heap[a]? := fun a _ _ => by rw [hh]
  exact ⟨(va_Z.moved al h.1).kept hq, (va_T.moved al h.2.1).kept hq, va_Mi.moved al h.2.2.1, va_Dc.moved al h.2.2.2.1, vk_R.same hv.symm h.2.2.2.2.1, (vk_S.moved al h.2.2.2.2.2.1).kept hq, (va_Z.moved al h.2.2.2.2.2.2.1).kept hq, (va_Zq.moved al h.2.2.2.2.2.2.2).kept hq⟩
abbrev olP : Type := List Int32 × Nat × Nat × Nat × Nat
abbrev olk (B : Nat → Prop) (o : olP) (U : State) : Prop := olK B o.1 o.2.1 o.2.2.1 o.2.2.2.1 o.2.2.2.2 U
def zo_M (l : Launch) (D : va_G) (ar : Nat → ClassId) (B : Nat → Prop) (o : olP) (y : MethodName) (cc : ByteArray) (mL : Nat) (ret : Option FieldType) (fr lo mc ms : Nat) (as : List Value) (w : zcW) (n : Nat) (Po : Option Value → zcW → Nat → Prop) : Prop :=
  Met l y (.code y cc mL ret :: hk_tb) { frames := fr, cells := mc, slots := ms, locals := lo } (va_Pc as (fun U => (zc_P D w U.heap ∧ U.heap.size = n ∧ zc_B B w n ∧ clK D ar U) ∧ olk B o U)) (zc_Q D B Po) mc ms B
section ZO
variable {p : Program} {l : Launch} {e : Env} {R : Room} {s : State} {m : MethodId} {args : Array Value} {below : List Frame} {meth : Method} {c : Code} {nL : Nat} {Q : State → Prop} {pc : Nat} {loc : List (Nat × Value)} {stk : List Value} {cc : ByteArray} {D : va_G} {ar : Nat → ClassId} {B : Nat → Prop} {w : zcW} {n : Nat} {H0 : Heap} {own : String} {cells slots : Nat} {o : olP}
theorem zc_vaS {H : Heap} {locs : List Loc} (h : zc_I D B w n s.heap H) (h2 : ∀ x ∈ locs, B x.base) (hn : s.heap.size ≤ n) : va_S B s.heap H locs := ⟨by rw [h.2.1]; exact hn, fun q _ hb => h.2.2.2 q hb, h2⟩
theorem zo_start {y : MethodName} {mL fr lo mc ms : Nat} {ret : Option FieldType} {as : List Value} {Po : Option Value → zcW → Nat → Prop} (hy : plainFor y = true) (hc : y.cls = own) (hn : (lg_sl as).length ≤ mL)
    (h : ∀ p e s m args below meth c, CallFix p m c cc mL s args hk_tb own → clK D ar s → olk B o s → s.heap.size = n → meth.sig.returnType = ret → meth.locks = false → meth.name = y.name →
      hvV p l e { frames := fr, cells := mc, slots := ms, locals := lo } s m args below meth c mL B 0 0 (MQ below (zc_Q D B Po) args s mc ms B) (zc_I D B w n s.heap) 0 (lv_args 0 as) []) : zo_M l D ar B o y cc mL ret fr lo mc ms as w n Po := by
  refine va_MetF (cc := cc) (maxL := mL) (ret := ret) hy rfl ?_
  intro p e s m args below meth c s₁ B1 hml hv
  obtain ⟨rfl, ⟨hP, hz, hB, hK⟩, hO⟩ := hv
  have hts := atoms_spec (ws := .code y cc mL ret :: hk_tb) B1.pre
  have hown : s.vm.findClass y.cls = some m.cls := findClass_of_methodNamed B1.named
  rw [hc] at hown
  have hl := lv_entry as (n := mL) hn
  rw [lg_entry_eq]
  exact h p e s m as.toArray below meth c ⟨B1.exec, B1.bytes, hml, hown, fun w hw => hts w (List.mem_cons_of_mem _ hw)⟩ hK hO hz B1.returns B1.notSynchronized (name_of_methodNamed B1.named B1.method).1 s.heap [] _ ⟨hP, hz, hB, fun _ _ => rfl⟩ (fun x hx => absurd hx List.not_mem_nil) hl
theorem olk.at {H : Heap} (h : olk B o s) (h1 : zc_I D B w n s.heap H) {U : State} (hU : U.heap = H) (hW : s.WarmedH U.vm) : olk B o U := olK.warm hW (fun a _ hb => by rw [hU]; exact h1.2.2.2 a hb) h
theorem zo_callS {y : MethodName} {bytes : ByteArray} {maxL : Nat} {ret : Option FieldType} {fr lo idx mc ms : Nat} {Po : Option Value → zcW → Nat → Prop} (As rest : List Value) (C : CallFix p m c cc nL s args hk_tb own) (K : clK D ar s) (O : olk B o s) (hM : zo_M l D ar B o y bytes maxL ret fr lo mc ms As w n Po) (ck : zcS own y bytes maxL ret idx As.length) (hR : fr + 1 ≤ R.frames ∧ 8 + (maxL + 11) + lo ≤ R.locals) (hf : cells + mc ≤ R.cells ∧ slots + ms ≤ R.slots) (hs : stk = As.reverse ++ rest) (hW : (rest.map fun v => v.category).sum ≤ 8) (d : decode cc pc = .ok (.invokestatic idx, 3)) (k : ∀ r w' n', Po r w' n' → hvV p l e R s m args below meth c nL B (cells + mc) (slots + ms) Q (zc_I D B w' n' s.heap) (pc + 3) loc (r.toList ++ rest)) : hvV p l e R s m args below meth c nL B cells slots Q (zc_I D B w n s.heap) pc loc stk :=
  zc_go (fun H locs ls h1 h3 => va_runS (Ts := hk_tb) (As := As) (rest := rest) C hM (n := As.length) ⟨callB_of As.length C.2.2.2.2 (hk_goodIn ck.1) rfl rfl rfl (C.2.2.2.2 _ ck.2.2.1) (C.2.2.2.2 _ ck.2.1) ck.2.2.2.1 hR, C.2.2.2.2 _ ck.2.2.2.2⟩ ⟨fun a U g mk q => ⟨q.1, ⟨q.2.1.1, q.2.1.2.1, q.2.1.2.2.1, clK.blind (U := U.calling g mk a) rfl q.2.1.2.2.2⟩, olK.blind (U := U.calling g mk a) rfl rfl q.2.2⟩, fun U hU hW => ⟨rfl, ⟨by rw [hU]; exact h1.1, by rw [hU]; exact h1.2.1, h1.2.2.1, K.warm hW⟩, O.at h1 hU hW⟩⟩ rfl rfl h3.1 hs (lv_room hW) d hf) k
theorem zo_callV {y : MethodName} {bytes : ByteArray} {maxL : Nat} {ret : Option FieldType} {fr lo idx mc ms a ci : Nat} {fs : List Value} {q : vw_C} {Po : Option Value → zcW → Nat → Prop} (As rest : List Value) (C : CallFix p m c cc nL s args hk_tb own) (K : clK D ar s) (O : olk B o s) (hw : w a = some (.inr (ci, fs))) (hc : vwCl[ci]? = some q) (hM : zo_M l D ar B o y bytes maxL ret fr lo mc ms (.ref a :: As) w n Po) (ck : zcV own q.1 y bytes maxL ret idx As.length) (hR : fr + 1 ≤ R.frames ∧ 8 + (maxL + 11) + lo ≤ R.locals) (hf : cells + mc ≤ R.cells ∧ slots + ms ≤ R.slots) (hs : stk = As.reverse ++ .ref a :: rest) (hW : (rest.map fun v => v.category).sum ≤ 8) (d : decode cc pc = .ok (.invokevirtual idx, 3)) (k : ∀ r w' n', Po r w' n' → hvV p l e R s m args below meth c nL B (cells + mc) (slots + ms) Q (zc_I D B w' n' s.heap) (pc + 3) loc (r.toList ++ rest)) : hvV p l e R s m args below meth c nL B cells slots Q (zc_I D B w n s.heap) pc loc stk :=
  zc_go (fun H locs ls h1 h3 => va_runV (Ts := hk_tb) (As := As) (b := a) (rest := rest) C hM (C := q.1) (n := As.length) ⟨callB_of As.length C.2.2.2.2 (hk_goodIn ck.1) rfl rfl rfl (C.2.2.2.2 _ ck.2.2.1) (C.2.2.2.2 _ ck.2.1) ck.2.2.2.1 hR, C.2.2.2.2 _ ck.2.2.2.2.1, C.2.2.2.2 _ ck.2.2.2.2.2⟩ ⟨fun a U g mk q => ⟨q.1, ⟨q.2.1.1, q.2.1.2.1, q.2.1.2.2.1, clK.blind (U := U.calling g mk a) rfl q.2.1.2.2.2⟩, olK.blind (U := U.calling g mk a) rfl rfl q.2.2⟩, va_recv K.1 (zc_1 h1.1 hw) (q0 := 0) hc rfl, fun U hU hW => ⟨rfl, ⟨by rw [hU]; exact h1.1, by rw [hU]; exact h1.2.1, h1.2.2.1, K.warm hW⟩, O.at h1 hU hW⟩⟩ rfl rfl h3.1 hs (lv_room hW) d hf) k
/-- what a constructor's call needs of the tables -/
def zcI (own : String) (y : MethodName) (bytes : ByteArray) (maxL : Nat) (idx n : Nat) : Prop :=
  Cond.code y bytes maxL none ∈ hk_tb ∧ Cond.methodLink own idx y ∈ hk_tb ∧ Cond.initialized y.cls ∈ hk_tb ∧ (y.cls ≠ "java/lang/invoke/MethodHandle" ∧ y.cls ≠ "java/lang/invoke/VarHandle" ∧ (parseMethodDescriptor y.desc).map (fun d => d.parameters.length) = some n) ∧ Cond.instanceMethod y ∈ hk_tb ∧ y.name = "<init>"
def zcJ (own host : String) (y : MethodName) (bytes : ByteArray) (maxL : Nat) (idx n : Nat) : Prop :=
  Cond.code y bytes maxL none ∈ hk_tb ∧ (own, idx, y, host) ∈ nwM ∧ Cond.initialized y.cls ∈ hk_tb ∧ (y.cls ≠ "java/lang/invoke/MethodHandle" ∧ y.cls ≠ "java/lang/invoke/VarHandle" ∧ (parseMethodDescriptor y.desc).map (fun d => d.parameters.length) = some n) ∧ Cond.instanceMethod y ∈ hk_tb ∧ y.name = "<init>"
theorem zc_callI {y : MethodName} {bytes : ByteArray} {maxL : Nat} {fr lo idx mc ms a : Nat} {Po : Option Value → zcW → Nat → Prop} (As rest : List Value) (C : CallFix p m c cc nL s args hk_tb own) (K : clK D ar s) (hM : zc_M l D ar B y bytes maxL none fr lo mc ms (.ref a :: As) w n Po) (ck : zcI own y bytes maxL idx As.length) (hR : fr + 1 ≤ R.frames ∧ 8 + (maxL + 11) + lo ≤ R.locals) (hf : cells + mc ≤ R.cells ∧ slots + ms ≤ R.slots) (hs : stk = As.reverse ++ .ref a :: rest) (hW : (rest.map fun v => v.category).sum ≤ 8) (d : decode cc pc = .ok (.invokespecial idx, 3)) (k : ∀ r w' n', Po r w' n' → hvV p l e R s m args below meth c nL B (cells + mc) (slots + ms) Q (zc_I D B w' n' H0) (pc + 3) loc (r.toList ++ rest)) : hvV p l e R s m args below meth c nL B cells slots Q (zc_I D B w n H0) pc loc stk :=
  zc_go (fun H locs ls h1 h3 => va_runI (Ts := hk_tb) (As := As) (b := a) (rest := rest) C hM (n := As.length) ⟨callB_of As.length C.2.2.2.2 (hk_goodIn ck.1) rfl rfl rfl (C.2.2.2.2 _ ck.2.2.1) (C.2.2.2.2 _ ck.2.1) ck.2.2.2.1 hR, ck.2.2.2.2.2, C.2.2.2.2 _ ck.2.2.2.2.1⟩ ⟨fun a U g mk q => ⟨q.1, q.2.1, q.2.2.1, q.2.2.2.1, clK.blind (U := U.calling g mk a) rfl q.2.2.2.2⟩, fun U hU hW => ⟨rfl, by rw [hU]; exact h1.1, by rw [hU]; exact h1.2.1, h1.2.2.1, K.warm hW⟩⟩ rfl rfl h3.1 hs (lv_room hW) d hf) k
theorem zo_callI {y : MethodName} {bytes : ByteArray} {maxL : Nat} {fr lo idx mc ms a : Nat} {Po : Option Value → zcW → Nat → Prop} (As rest : List Value) (C : CallFix p m c cc nL s args hk_tb own) (K : clK D ar s) (O : olk B o s) (hM : zo_M l D ar B o y bytes maxL none fr lo mc ms (.ref a :: As) w n Po) (ck : zcI own y bytes maxL idx As.length) (hR : fr + 1 ≤ R.frames ∧ 8 + (maxL + 11) + lo ≤ R.locals) (hf : cells + mc ≤ R.cells ∧ slots + ms ≤ R.slots) (hs : stk = As.reverse ++ .ref a :: rest) (hW : (rest.map fun v => v.category).sum ≤ 8) (d : decode cc pc = .ok (.invokespecial idx, 3)) (k : ∀ r w' n', Po r w' n' → hvV p l e R s m args below meth c nL B (cells + mc) (slots + ms) Q (zc_I D B w' n' s.heap) (pc + 3) loc (r.toList ++ rest)) : hvV p l e R s m args below meth c nL B cells slots Q (zc_I D B w n s.heap) pc loc stk :=
  zc_go (fun H locs ls h1 h3 => va_runI (Ts := hk_tb) (As := As) (b := a) (rest := rest) C hM (n := As.length) ⟨callB_of As.length C.2.2.2.2 (hk_goodIn ck.1) rfl rfl rfl (C.2.2.2.2 _ ck.2.2.1) (C.2.2.2.2 _ ck.2.1) ck.2.2.2.1 hR, ck.2.2.2.2.2, C.2.2.2.2 _ ck.2.2.2.2.1⟩ ⟨fun a U g mk q => ⟨q.1, ⟨q.2.1.1, q.2.1.2.1, q.2.1.2.2.1, clK.blind (U := U.calling g mk a) rfl q.2.1.2.2.2⟩, olK.blind (U := U.calling g mk a) rfl rfl q.2.2⟩, fun U hU hW => ⟨rfl, ⟨by rw [hU]; exact h1.1, by rw [hU]; exact h1.2.1, h1.2.2.1, K.warm hW⟩, O.at h1 hU hW⟩⟩ rfl rfl h3.1 hs (lv_room hW) d hf) k
theorem zc_callJ {y : MethodName} {bytes : ByteArray} {maxL : Nat} {fr lo idx mc ms a : Nat} {host : String} {Po : Option Value → zcW → Nat → Prop} (As rest : List Value) (C : CallFix p m c cc nL s args hk_tb own) (K : clK D ar s) (hM : zc_M l D ar B y bytes maxL none fr lo mc ms (.ref a :: As) w n Po) (ck : zcJ own host y bytes maxL idx As.length) (hR : fr + 1 ≤ R.frames ∧ 8 + (maxL + 11) + lo ≤ R.locals) (hf : cells + mc ≤ R.cells ∧ slots + ms ≤ R.slots) (hs : stk = As.reverse ++ .ref a :: rest) (hW : (rest.map fun v => v.category).sum ≤ 8) (d : decode cc pc = .ok (.invokespecial idx, 3)) (k : ∀ r w' n', Po r w' n' → hvV p l e R s m args below meth c nL B (cells + mc) (slots + ms) Q (zc_I D B w' n' H0) (pc + 3) loc (r.toList ++ rest)) : hvV p l e R s m args below meth c nL B cells slots Q (zc_I D B w n H0) pc loc stk :=
  zc_go (fun H locs ls h1 h3 => va_runIN (Ts := hk_tb) (As := As) (b := a) (rest := rest) C hM (n := As.length) ⟨va_cnB As.length C.2.2.2.2 (hk_goodIn ck.1) rfl rfl rfl (K.2.1 _ ck.2.1) (C.2.2.2.2 _ ck.2.2.1) ck.2.2.2.1 hR, ck.2.2.2.2.2, C.2.2.2.2 _ ck.2.2.2.2.1⟩ ⟨fun a U g mk q => ⟨q.1, q.2.1, q.2.2.1, q.2.2.2.1, clK.blind (U := U.calling g mk a) rfl q.2.2.2.2⟩, fun U hU hW => ⟨rfl, by rw [hU]; exact h1.1, by rw [hU]; exact h1.2.1, h1.2.2.1, K.warm hW⟩⟩ rfl rfl h3.1 hs (lv_room hW) d hf) k
theorem zc_oinit (C : CallFix p m c cc nL s args hk_tb own) {HI : Heap → Prop} {FR : Nat → Prop} {a idx : Nat} (hl : Cond.methodLink own idx Lib.objectInit ∈ hk_tb) (hi : Cond.instanceMethod Lib.objectInit ∈ hk_tb) (hcode : Cond.code Lib.objectInit ⟨#[0xb1]⟩ 1 none ∈ hk_tb) (hfr : 1 ≤ R.frames) (hlo : (stk.map fun v => v.category).sum + 12 ≤ R.locals) (d : decode cc pc = .ok (.invokespecial idx, 3)) (k : hvV p l e R s m args below meth c nL FR cells slots Q HI (pc + 3) loc stk) : hvV p l e R s m args below meth c nL FR cells slots Q HI pc loc (.ref a :: stk) := fun H locs ls h1 h2 h3 => W.objInit C.1 C.2.1 C.2.2.2.1 (C.2.2.2.2 _ hl) (C.2.2.2.2 _ hi) (C.2.2.2.2 _ hcode) (g := F0 m pc ls (.ref a :: stk)) rfl (by rw [C.2.2.1]; exact h3.1) rfl d hfr (by show 2 * 0 + _ + 12 ≤ _; omega) (k H locs ls h1 h2 h3)
theorem zc_new (C : CallFix p m c cc nL s args hk_tb own) (K : clK D ar s) {idx ci N : Nat} {CN : String} {T : u_T} (fs : List Value) (hc : vwCl[ci]? = some (CN, T, N)) (hu : ∀ w ∈ u_ws CN T N, w ∈ hk_tb) (ty : Nat → FieldType) (hty : ∀ k, k < N → parseFieldDescriptor (T k).2.2.1 = some (ty k)) (hcl : Cond.classLink own idx CN ∈ hk_tb) (hins : Cond.instantiable CN N ∈ hk_tb) (hini : Cond.initialized CN ∈ hk_tb) (hfs : ∀ j, j < N → defaultValue (ty j) = vp_V fs j) (hf : cells + 1 ≤ R.cells ∧ slots + N ≤ R.slots) (d : decode cc pc = .ok (.new idx, 3)) (k : hvV p l e R s m args below meth c nL B (cells + 1) (slots + N) Q (zc_I D B (zc_u w n (.inr (ci, fs))) (n + 1) H0) (pc + 3) loc (.ref n :: stk)) : hvV p l e R s m args below meth c nL B cells slots Q (zc_I D B w n H0) pc loc stk := by
  intro H locs ls h1 h2 h3
  have hKn := K.1.1 ci _ hc
  refine W.newcK C.1 C.2.1 C.2.2.2.1 (C.2.2.2.2 _ hcl) (C.2.2.2.2 _ hins) (C.2.2.2.2 _ hini) rfl d hf.1 hf.2 hKn.2.1 h1.2.1 fun H1 kC hkC e1 z1 o1 => ?_
  exact k H1 locs ls (h1.push ⟨_, hc, (u_born ty C.2.2.2.2 hu hKn hkC e1 hty).to hfs⟩ z1 o1) h2 h3
theorem zc_newa (C : CallFix p m c cc nL s args hk_tb own) (K : clK D ar s) {at9 : ArrayType} {ty : FieldType} {cA : ClassId} {z : Int} (N : Nat) (hz : z = (N : Int)) (hN : N ≤ 100000) (hty : newarray.typeOf at9 = ty) (hdef : defaultValue ty = .int 0) (hby : componentBytes ty ≤ 8) (harr : Cond.arrayClass ty ∈ hk_tb) (hcls : s.vm.findClass ("[" ++ ty.toString) = some cA) (hf : cells + 1 ≤ R.cells ∧ slots + N ≤ R.slots) (d : decode cc pc = .ok (.newarray at9, 2)) (k : hvV p l e R s m args below meth c nL B (cells + 1) (slots + N) Q (zc_I D B (zc_u w n (.inl (cA, N, .inl (fun _ => iz 0)))) (n + 1) H0) (pc + 2) loc (.ref n :: stk)) : hvV p l e R s m args below meth c nL B cells slots Q (zc_I D B w n H0) pc loc (.int (iz z) :: stk) := by
  subst hty
  subst hz
  intro H locs ls h1 h2 h3
  have zN : (iz (N : Int)).toNatClampNeg = N := by rw [iz_clamp (by omega) (by omega)]; omega
  have iN : (iz (N : Int)).toInt = (N : Int) := iz_toInt ⟨by omega, by omega⟩
  have ngN : ¬ iz (N : Int) < 0 := by
    intro q
    have q2 := Int32.lt_iff_toInt_lt.mp q
    rw [iN] at q2
    have : (0 : Int32).toInt = 0 := rfl
    omega
  refine va_newaK C.1 C.2.1 (C.2.2.2.2 _ harr) rfl d rfl ngN zN (by have := Nat.mul_le_mul hN hby; omega) hf.1 hf.2 h1.2.1 fun H1 cB e1 z1 o1 hAr hNm => ?_
  have : cB = cA := Option.some.inj (hNm.symm.trans hcls)
  subst this
  refine k H1 locs ls (h1.push (x := .inl (cB, N, .inl (fun _ => iz 0))) ?_ z1 o1) h2 h3
  show H1[n]? = some (vp_cell _ _)
  rw [e1, hdef]
  rfl
theorem zc_newr (C : CallFix p m c cc nL s args hk_tb own) (K : clK D ar s) {E nm : String} {cA : ClassId} {idx : Nat} {z : Int} (N : Nat) (hz : z = (N : Int)) (hN : N ≤ 100000) (hcl : Cond.classLink own idx E ∈ hk_tb) (hov : va_AO E s) (hnm : "[" ++ (FieldType.object E).toString = nm) (hcls : s.vm.findClass nm = some cA) (hf : cells + 1 ≤ R.cells ∧ slots + N ≤ R.slots) (d : decode cc pc = .ok (.anewarray idx, 3)) (k : hvV p l e R s m args below meth c nL B (cells + 1) (slots + N) Q (zc_I D B (zc_u w n (.inl (cA, N, .inr (.inr (.inr (.inr (fun _ => none))))))) (n + 1) H0) (pc + 3) loc (.ref n :: stk)) : hvV p l e R s m args below meth c nL B cells slots Q (zc_I D B w n H0) pc loc (.int (iz z) :: stk) := by
  subst hz
  intro H locs ls h1 h2 h3
  have zN : (iz (N : Int)).toNatClampNeg = N := by rw [iz_clamp (by omega) (by omega)]; omega
  have iN : (iz (N : Int)).toInt = (N : Int) := iz_toInt ⟨by omega, by omega⟩
  have ngN : ¬ iz (N : Int) < 0 := by
    intro q
    have q2 := Int32.lt_iff_toInt_lt.mp q
    rw [iN] at q2
    have : (0 : Int32).toInt = 0 := rfl
    omega
  refine W.anew C.1 C.2.1 C.2.2.2.1 (C.2.2.2.2 _ hcl) (va_AO.use hov) rfl d rfl ngN (by rw [zN]; omega) hf.1 (by rw [zN]; exact hf.2) fun cB kA comp f1 f2 f3 f4 => ?_
  rw [zN]
  have hcB : cB = cA := by
    rw [hnm] at f1
    exact Option.some.inj (f1.symm.trans hcls)
  subst hcB
  generalize hH1 : H.push ({ cls := cB, slots := Array.replicate N .null, vm := .none } : Cell) = H1
  have z1 : H1.size = n + 1 := by rw [← hH1, Array.size_push, h1.2.1]
  have e1 : H1[n]? = some (arrV cB N (fun _ => .null)) := by rw [← hH1, ← h1.2.1, Array.getElem?_push_size, ← arrV_new]
  have o1 : ∀ q : Nat, q < n → H1[q]? = H[q]? := fun q hq => by rw [← hH1, Array.getElem?_push, if_neg (by rw [h1.2.1]; omega)]
  have hg := k H1 locs ls (h1.push (x := .inl (cB, N, .inr (.inr (.inr (.inr (fun _ => none)))))) (by show H1[n]? = some (vp_cell _ _); rw [e1]; rfl) z1 o1) h2 h3
  rw [← h1.2.1] at hg
  exact hg
theorem zc_putF (C : CallFix p m c cc nL s args hk_tb own) (K : clK D ar s) {index a ci N : Nat} {fs : List Value} {CN ref : String} {T : u_T} {v : Value} {w2 : zcW} (f : Nat) (hc : vwCl[ci]? = some (CN, T, N)) (hu : ∀ w ∈ u_ws CN T N, w ∈ hk_tb) (ty0 : Nat → FieldType) (hty : ∀ k, k < N → parseFieldDescriptor (T k).2.2.1 = some (ty0 k)) (hnm : ∀ a, a < N → ∀ b, b < N → a ≠ b → (T a).2.1 ≠ (T b).2.1) (hf : f < N) (hw : w a = some (.inr (ci, fs))) (h9 : zc_u w a (.inr (ci, fs.set f v)) = w2) (hl : Cond.fieldLink own index ref (T f).2.1 (T f).2.2.1 ∈ hk_tb) (hr : (T f).1 = ref) (hfin : (T f).2.2.2 = true) (hin2 : meth.name = "<init>") (hdecl : (T f).1 = own) {ty : FieldType} (hd : parseFieldDescriptor (T f).2.2.1 = some ty) (hn : narrow ty v = v) (hfit : fits ty v = true) (hlen : f < fs.length) (d : decode cc pc = .ok (.putfield index, 3)) (k : hvV p l e R s m args below meth c nL B cells slots Q (zc_I D B w2 n H0) (pc + 3) loc stk) : hvV p l e R s m args below meth c nL B cells slots Q (zc_I D B w n H0) pc loc (v :: .ref a :: stk) := by
  subst h9
  intro H locs ls h1 h2 h3
  have hap := va_apart (own := own) C.2.2.2.2 hu ty0 hty hnm K.1 hc
  obtain ⟨r, h1', cell, q1, q2, q3, q4⟩ := h1.1 a _ hw
  have hr' : r = (CN, T, N) := Option.some.inj (h1'.symm.trans hc)
  subst hr'
  obtain ⟨hS, hfc, kC, hkC, hkind⟩ := K.1.1 ci _ hc
  obtain ⟨cf, kf, fi, fd, hi, hsl⟩ := hS f hf
  have hlay := C.2.2.2.2 _ (hu _ (u_in_lay hf))
  unfold u_lay at hlay
  rw [if_pos hfin] at hlay
  have hst := (u_facts hfc hkC (u_lays C.2.2.2.2 hu hf) hi).1
  have hcf : m.cls = cf := by
    obtain ⟨_, _, c', _, _, _, -, -, hf', -, -, -, hown2, -⟩ := Cond.laysFinal_spec hlay
    have e1 : c' = cf := by have := hi.symm.trans hf'; simp at this; exact this.1.symm
    rw [hdecl] at hown2
    rw [← e1]; exact Option.some.inj (C.2.2.2.1.symm.trans hown2)
  have h6 := u_fits hfc hkC hkind (Or.inr hlay) hi hd hn hfit
  refine W.putFinK C.1 C.2.1 C.2.2.2.1 (C.2.2.2.2 _ hl) (by rw [hr] at hi; exact hi) hst hcf hin2 (by rw [q2]; exact h6) q1 q3 (by rw [hsl]; exact k2_hasslot (q4 f hf)) rfl rfl d fun H' e1 e2 e3 => ?_
  rw [hsl] at e1 ⊢
  refine k H' _ ls (h1.set hw ⟨_, hc, t_OB.to (V := updV (vp_V fs) f v) ⟨_, e1, q2, q3, t_set q4 hap hf v⟩ (fun j _ => vp_updV_set hlen v j)⟩ e2 e3) (fun x hx => ?_) h3
  rcases List.mem_append.mp hx with h | h
  · exact h2 x h
  · rw [List.mem_singleton.mp h]; exact h1.2.2.1.1 a _ hw
theorem zc_aast (C : CallFix p m c cc nL s args hk_tb own) (K : clK D ar s) {a N v ci : Nat} {f : Nat → Option Nat} {z : Int} {cA : ClassId} {E : String} {r : vw_C} {vs : List Value} {w2 : zcW} (t i : Nat) (hw : w a = some (.inl (cA, N, .inr (.inr (.inr (.inr f)))))) (ht : (clT ar)[t]? = some (cA, .object E)) (hv : w v = some (.inr (ci, vs))) (hc : vwCl[ci]? = some r) (hca : (r.1, E) ∈ nwC ∨ r.1 = E) (h9 : zc_u w a (.inl (cA, N, .inr (.inr (.inr (.inr (fun q => if q = i then some v else f q)))))) = w2) (hz : z = (i : Int)) (hi : i < N) (hN : N ≤ 2147483647) (d : decode cc pc = .ok (.aastore, 1)) (k : hvV p l e R s m args below meth c nL B cells slots Q (zc_I D B w2 n H0) (pc + 1) loc stk) : hvV p l e R s m args below meth c nL B cells slots Q (zc_I D B w n H0) pc loc (.ref v :: .int (iz z) :: .ref a :: stk) := by
  subst hz
  subst h9
  intro H locs ls h1 h2 h3
  have hcl : (iz (i : Int)).toNatClampNeg = i := by rw [iz_clamp (by omega) (by omega)]; omega
  have hin : vp_in (iz (i : Int)) N := iz_in (by omega) (by omega) hN
  have hlt : (iz (i : Int)).toNatClampNeg < N := by omega
  have h0 : ¬ iz (i : Int) < 0 := fun q => hin (Or.inl q)
  obtain ⟨r', hr', cellV, g1, g2, g3, -⟩ := h1.1 v _ hv
  have hcls := (K.1.1 ci r hc).2
  obtain ⟨kA, comp, k1, k2, k3, -⟩ := (K.1.2 t _ ht).2
  obtain ⟨kE, hkE, -⟩ := Vm.findClass_spec k3
  have hasg : s.vm.assignable (D.1 ci) comp = true := by
    rcases hca with hq | hq
    · obtain ⟨c0, t1, f1, f2, f3⟩ := Cond.castable_spec (va_Nw.use (A := args) rfl (K.2.2.1 _ hq))
      cases hcls.1.symm.trans f1
      cases k3.symm.trans f2
      exact f3
    · rw [← hq] at k3
      have hcomp : comp = D.1 ci := Option.some.inj (k3.symm.trans hcls.1)
      rw [hcomp]
      exact va_assign hcls
  obtain ⟨kC, hkC, -⟩ := hcls.2
  refine W.aast C.1 C.2.1 (h1.1 a _ hw) (fun q h => by cases h) (fun h => by cases h) k1 k2 rfl hkE ⟨h0, by show _ < (arrV _ _ _).slots.size; rw [arrV_size]; exact hlt⟩ g1 (fun q h => by rw [g3] at h; cases h) (by rw [g2]; exact hkC) (by rw [g2]; exact hasg) rfl rfl d fun H1 e z oq => ?_
  refine k H1 _ ls (h1.set hw ?_ z oq) (fun x hx => ?_) h3
  · show H1[a]? = some (vp_cell _ _)
    rw [e, hcl]
    rw [vp_cell_q, vp_cell_q, arrV_store]
    congr 2
    funext q
    by_cases hq : q = i
    · subst hq
      simp [updV, va_rf]
    · simp [updV, hq]
  · rcases List.mem_append.mp hx with h | h
    · exact h2 x h
    · rw [List.mem_singleton.mp h]; exact h1.2.2.1.1 a _ hw
theorem zc_aastN (C : CallFix p m c cc nL s args hk_tb own) (K : clK D ar s) {a N : Nat} {f : Nat → Option Nat} {z : Int} {cA : ClassId} {E : String} {w2 : zcW} (t i : Nat) (hw : w a = some (.inl (cA, N, .inr (.inr (.inr (.inr f)))))) (ht : (clT ar)[t]? = some (cA, .object E)) (h9 : zc_u w a (.inl (cA, N, .inr (.inr (.inr (.inr (fun q => if q = i then none else f q)))))) = w2) (hz : z = (i : Int)) (hi : i < N) (hN : N ≤ 2147483647) (d : decode cc pc = .ok (.aastore, 1)) (k : hvV p l e R s m args below meth c nL B cells slots Q (zc_I D B w2 n H0) (pc + 1) loc stk) : hvV p l e R s m args below meth c nL B cells slots Q (zc_I D B w n H0) pc loc (.null :: .int (iz z) :: .ref a :: stk) := by
  subst hz
  subst h9
  intro H locs ls h1 h2 h3
  have hcl : (iz (i : Int)).toNatClampNeg = i := by rw [iz_clamp (by omega) (by omega)]; omega
  have hin : vp_in (iz (i : Int)) N := iz_in (by omega) (by omega) hN
  refine va_WaastN (C := E) C.1 C.2.1 (h1.1 a _ hw) ((K.1.2 t _ ht).1 N (fun j => va_rf (f j))) (fun h => by cases h) (by show ¬ (iz (i : Int) < 0 ∨ (arrV _ _ _).slots.size ≤ _); rw [arrV_size]; exact hin) rfl rfl d fun H1 e z oq => ?_
  refine k H1 _ ls (h1.set hw ?_ z oq) (fun x hx => ?_) h3
  · show H1[a]? = some (vp_cell _ _)
    rw [e, hcl]
    rw [vp_cell_q, vp_cell_q, arrV_store]
    congr 2
    funext q
    by_cases hq : q = i
    · subst hq
      simp [updV, va_rf]
    · simp [updV, hq]
  · rcases List.mem_append.mp hx with h | h
    · exact h2 x h
    · rw [List.mem_singleton.mp h]; exact h1.2.2.1.1 a _ hw
theorem zo_gets (C : CallFix p m c cc nL s args hk_tb own) {CN nm dd ref : String} {v : Value} {idx : Nat} (hZ : va_Z CN nm dd v B s s.heap) (hn : s.heap.size ≤ n) (hl : Cond.fieldLink own idx ref nm dd ∈ hk_tb) (hr : CN = ref) (d : decode cc pc = .ok (.getstatic idx, 3)) (k : hvV p l e R s m args below meth c nL B cells slots Q (zc_I D B w n s.heap) (pc + 3) loc (v :: stk)) : hvV p l e R s m args below meth c nL B cells slots Q (zc_I D B w n s.heap) pc loc stk := by
  subst hr
  exact fun H locs ls h1 h2 h3 => va_gets C.1 C.2.1 hZ (zc_vaS h1 h2 hn) C.2.2.2.1 (C.2.2.2.2 _ hl) (fun _ h => h) d (k H locs ls h1 h2 h3)
theorem zo_tlen (C : CallFix p m c cc nL s args hk_tb own) {ty : FieldType} {t N : Nat} {f : Nat → Value} (hT : va_T ty t N f B s s.heap) (hn : s.heap.size ≤ n) (hN : N ≤ 2147483647) (d : decode cc pc = .ok (.arraylength, 1)) (k : hvV p l e R s m args below meth c nL B cells slots Q (zc_I D B w n s.heap) (pc + 1) loc (.int (iz (N : Int)) :: stk)) : hvV p l e R s m args below meth c nL B cells slots Q (zc_I D B w n s.heap) pc loc (.ref t :: stk) := fun H locs ls h1 h2 h3 => va_tlen C.1 C.2.1 hT (zc_vaS h1 h2 hn) (v := iz (N : Int)) rfl d (k H locs ls h1 h2 h3)
theorem hv_acmp_ne {FR : Nat → Prop} {HI : Heap → Prop} (C : CallFix p m c cc nL s args hk_tb own) {x y : Nat} {off : Int} (tgt : Nat) (d : decode cc pc = .ok (.if_acmp .ne off, 3)) (ht : (pc : Int) + off = (tgt : Int)) (k1 : x ≠ y → hvV p l e R s m args below meth c nL FR cells slots Q HI tgt loc stk) (k2 : x = y → hvV p l e R s m args below meth c nL FR cells slots Q HI (pc + 3) loc stk) : hvV p l e R s m args below meth c nL FR cells slots Q HI pc loc (.ref y :: .ref x :: stk) := fun H locs ls h1 h2 h3 => lv_acmp_ne (rx := some x) (ry := some y) C.1 C.2.1 d ht (fun q => k1 (fun z => q (by rw [z])) H locs ls h1 h2 h3) (fun q => k2 (Option.some.inj q) H locs ls h1 h2 h3)
theorem hv_acmp_eq {FR : Nat → Prop} {HI : Heap → Prop} (C : CallFix p m c cc nL s args hk_tb own) {x y : Nat} {off : Int} (tgt : Nat) (d : decode cc pc = .ok (.if_acmp .eq off, 3)) (ht : (pc : Int) + off = (tgt : Int)) (k1 : x = y → hvV p l e R s m args below meth c nL FR cells slots Q HI tgt loc stk) (k2 : x ≠ y → hvV p l e R s m args below meth c nL FR cells slots Q HI (pc + 3) loc stk) : hvV p l e R s m args below meth c nL FR cells slots Q HI pc loc (.ref y :: .ref x :: stk) := fun H locs ls h1 h2 h3 => lv_acmp_eq (rx := some x) (ry := some y) C.1 C.2.1 d ht (fun q => k1 (Option.some.inj q) H locs ls h1 h2 h3) (fun q => k2 (fun z => q (by rw [z])) H locs ls h1 h2 h3)
end ZO

