/-! the class's world: a picture of the heap, cell by cell -/
abbrev zcW : Type := Nat → Option va_E
def zc_u (w : zcW) (a : Nat) (x : va_E) : zcW := fun q => if q = a then some x else w q
def zc_P (D : va_G) (w : zcW) (H : Heap) : Prop := ∀ (a : Nat) (x : va_E), w a = some x → va_at D vwCl (a, x) H
def zc_B (B : Nat → Prop) (w : zcW) (n : Nat) : Prop := (∀ (a : Nat) (x : va_E), w a = some x → B a) ∧ ∀ q, n ≤ q → B q
def zc_I (D : va_G) (B : Nat → Prop) (w : zcW) (n : Nat) (H0 H : Heap) : Prop := zc_P D w H ∧ H.size = n ∧ zc_B B w n ∧ ∀ q : Nat, ¬ B q → H[q]? = H0[q]?
theorem zc_1 {D : va_G} {w : zcW} {H : Heap} (h : zc_P D w H) {a : Nat} {x : va_E} (e : w a = some x) : va_P D vwCl [(a, x)] H := by
  intro k q hk
  cases k with
  | zero => have e1 : q = (a, x) := (Option.some.inj hk).symm
            subst e1; exact h a x e
  | succ k => exact absurd hk (by simp)
theorem zc_P.set {D : va_G} {w : zcW} {H H1 : Heap} {a : Nat} {x : va_E} (h : zc_P D w H) (he : va_at D vwCl (a, x) H1) (oq : ∀ q : Nat, q ≠ a → H1[q]? = H[q]?) : zc_P D (zc_u w a x) H1 := by
  intro q y hq
  unfold zc_u at hq
  by_cases e : q = a
  · rw [if_pos e] at hq; cases hq; rw [e]; exact he
  · rw [if_neg e] at hq; exact (h q y hq).kept (oq q e)
theorem zc_B.set {B : Nat → Prop} {w : zcW} {n a : Nat} {x y : va_E} (h : zc_B B w n) (e : w a = some y) : zc_B B (zc_u w a x) n := by
  refine ⟨fun q z hq => ?_, h.2⟩
  unfold zc_u at hq
  by_cases e1 : q = a
  · rw [e1]; exact h.1 a y e
  · rw [if_neg e1] at hq; exact h.1 q z hq
theorem zc_I.set {D : va_G} {B : Nat → Prop} {w : zcW} {n : Nat} {H0 H H1 : Heap} {a : Nat} {x y : va_E} (h : zc_I D B w n H0 H) (e : w a = some y) (he : va_at D vwCl (a, x) H1) (hz : H1.size = H.size) (oq : ∀ q : Nat, q ≠ a → H1[q]? = H[q]?) : zc_I D B (zc_u w a x) n H0 H1 :=
  ⟨h.1.set he oq, hz.trans h.2.1, h.2.2.1.set e, fun q hq => (oq q (fun z => hq (by rw [z]; exact h.2.2.1.1 a y e))).trans (h.2.2.2 q hq)⟩
/-- words of the tables that are not good words, and classes of arrays -/
abbrev clT (ar : Nat → ClassId) : List (ClassId × FieldType) := [(ar 0, .int), (ar 1, .byte), (ar 2, .object "java/lang/Object"), (ar 3, .object "HookUps$Contract"), (ar 4, .object "HookUps$Told"), (ar 5, .boolean)]
def nwM : List (String × Nat × MethodName × String) := [("HookUps", 22, ⟨"HookUps$Wiring", "<init>", "()V"⟩, "HookUps"), ("HookUps", 32, ⟨"HookUps$Shift", "<init>", "()V"⟩, "HookUps"), ("HookUps", 39, ⟨"HookUps$Reader", "<init>", "()V"⟩, "HookUps"), ("HookUps$Contract", 33, ⟨"HookUps", "within", "(III)Z"⟩, "HookUps"), ("HookUps$Reader", 108, ⟨"HookUps", "within", "(III)Z"⟩, "HookUps"), ("HookUps$Reader", 20, ⟨"HookUps$Contract", "<init>", "()V"⟩, "HookUps"), ("HookUps$Told", 62, ⟨"HookUps$Evening", "<init>", "()V"⟩, "HookUps"), ("HookUps$Told", 70, ⟨"HookUps$Contract", "<init>", "()V"⟩, "HookUps"), ("HookUps$Wiring", 27, ⟨"HookUps", "isPlace", "(I)Z"⟩, "HookUps")]
def nwC : List (String × String) := [("HookUps", "java/lang/Object"), ("HookUps$Break", "java/lang/Object"), ("HookUps$Contract", "java/lang/Object"), ("HookUps$Evening", "java/lang/Object"), ("HookUps$Hour", "java/lang/Object"), ("HookUps$Membership", "java/lang/Object"), ("HookUps$Reader", "java/lang/Object"), ("HookUps$Shift", "java/lang/Object"), ("HookUps$Station", "java/lang/Object"), ("HookUps$Told", "java/lang/Object"), ("HookUps$Wire", "java/lang/Object"), ("HookUps$Wiring", "java/lang/Object"), ("HookUpsModel", "java/lang/Object"), ("[B", "java/lang/Object"), ("[I", "java/lang/Object"), ("[LHookUps$Contract;", "java/lang/Object"), ("[LHookUps$Told;", "java/lang/Object"), ("[Ljava/lang/Object;", "java/lang/Object"), ("[Z", "java/lang/Object"), ("java/lang/String", "java/lang/Object"), ("java/util/ArrayList", "java/lang/Object")]
def clK (D : va_G) (ar : Nat → ClassId) (U : State) : Prop := va_K D vwCl (clT ar) U ∧ (∀ q ∈ nwM, va_Nw (.methodLinkNest q.1 q.2.1 q.2.2.1 q.2.2.2) U) ∧ (∀ q ∈ nwC, va_Nw (.castable q.1 q.2) U) ∧ (U.vm.findClass "[I" = some (ar 0) ∧ U.vm.findClass "[B" = some (ar 1) ∧ U.vm.findClass "[Ljava/lang/Object;" = some (ar 2) ∧ U.vm.findClass "[LHookUps$Contract;" = some (ar 3) ∧ U.vm.findClass "[LHookUps$Told;" = some (ar 4) ∧ U.vm.findClass "[Z" = some (ar 5)) ∧ va_AO "java/lang/Object" U ∧ va_AO "HookUps$Contract" U ∧ va_AO "HookUps$Told" U
theorem clK.warm {D : va_G} {ar : Nat → ClassId} {s U : State} (hW : s.WarmedH U.vm) (h : clK D ar s) : clK D ar U :=
  ⟨va_K.moved hW.alike h.1, fun q hq => (h.2.1 q hq).warmM hW, fun q hq => (h.2.2.1 q hq).warmC hW, ⟨(hW.alike.findClass _ _).trans h.2.2.2.1.1, (hW.alike.findClass _ _).trans h.2.2.2.1.2.1, (hW.alike.findClass _ _).trans h.2.2.2.1.2.2.1, (hW.alike.findClass _ _).trans h.2.2.2.1.2.2.2.1, (hW.alike.findClass _ _).trans h.2.2.2.1.2.2.2.2.1, (hW.alike.findClass _ _).trans h.2.2.2.1.2.2.2.2.2⟩, h.2.2.2.2.1.moved hW.alike, h.2.2.2.2.2.1.moved hW.alike, h.2.2.2.2.2.2.moved hW.alike⟩
theorem clK.blind {D : va_G} {ar : Nat → ClassId} {s U : State} (hv : s.vm = U.vm) (h : clK D ar s) : clK D ar U := by
  have al : s.vm.Alike U.vm := by rw [hv]; exact Vm.Alike.refl _
  exact ⟨va_K.moved al h.1, fun q hq => va_tabs rfl hv (h.2.1 q hq), fun q hq => va_tabs rfl hv (h.2.2.1 q hq), ⟨(al.findClass _ _).trans h.2.2.2.1.1, (al.findClass _ _).trans h.2.2.2.1.2.1, (al.findClass _ _).trans h.2.2.2.1.2.2.1, (al.findClass _ _).trans h.2.2.2.1.2.2.2.1, (al.findClass _ _).trans h.2.2.2.1.2.2.2.2.1, (al.findClass _ _).trans h.2.2.2.1.2.2.2.2.2⟩, h.2.2.2.2.1.moved al, h.2.2.2.2.2.1.moved al, h.2.2.2.2.2.2.moved al⟩
def zc_Q (D : va_G) (B : Nat → Prop) (Po : Option Value → zcW → Nat → Prop) : Array Value → State → Outcome → State → Prop := fun _ st oc t => ∃ r w' n', Po r w' n' ∧ oc = .returned r ∧ zc_I D B w' n' st.heap t.heap
/-- a method of the class: from the picture w with these arguments, what comes after keeps Po -/
def zc_M (l : Launch) (D : va_G) (ar : Nat → ClassId) (B : Nat → Prop) (y : MethodName) (cc : ByteArray) (mL : Nat) (ret : Option FieldType) (fr lo mc ms : Nat) (as : List Value) (w : zcW) (n : Nat) (Po : Option Value → zcW → Nat → Prop) : Prop :=
  Met l y (.code y cc mL ret :: hk_tb) { frames := fr, cells := mc, slots := ms, locals := lo } (va_Pc as (fun U => zc_P D w U.heap ∧ U.heap.size = n ∧ zc_B B w n ∧ clK D ar U)) (zc_Q D B Po) mc ms B
section ZC
variable {p : Program} {l : Launch} {e : Env} {R : Room} {s : State} {m : MethodId} {args : Array Value} {below : List Frame} {meth : Method} {c : Code} {nL : Nat} {Q : State → Prop} {pc : Nat} {loc : List (Nat × Value)} {stk : List Value} {cc : ByteArray} {D : va_G} {ar : Nat → ClassId} {B : Nat → Prop} {w : zcW} {n : Nat} {H0 : Heap} {own : String} {cells slots : Nat}
theorem zc_get (C : CallFix p m c cc nL s args hk_tb own) (K : clK D ar s) {index a ci N : Nat} {fs : List Value} {CN ref : String} {T : u_T} {v : Value} (f : Nat) (hc : vwCl[ci]? = some (CN, T, N)) (hu : ∀ w ∈ u_ws CN T N, w ∈ hk_tb) (hf : f < N) (hw : w a = some (.inr (ci, fs))) (hv : fs[f]? = some v) (hl : Cond.fieldLink own index ref (T f).2.1 (T f).2.2.1 ∈ hk_tb) (hr : (T f).1 = ref) (d : decode cc pc = .ok (.getfield index, 3)) (k : hvV p l e R s m args below meth c nL B cells slots Q (zc_I D B w n H0) (pc + 3) loc (v :: stk)) : hvV p l e R s m args below meth c nL B cells slots Q (zc_I D B w n H0) pc loc (.ref a :: stk) := fun H locs ls h1 h2 h3 => va_get (D := D) (cl := vwCl) C.1 C.2.1 C.2.2.2.2 hu C.2.2.2.1 K.1 (zc_1 h1.1 hw) 0 rfl hc f hf (C.2.2.2.2 _ hl) (fun _ h9 => by rw [hr] at h9; exact h9) hv d (k H locs ls h1 h2 h3)
theorem zc_put (C : CallFix p m c cc nL s args hk_tb own) (K : clK D ar s) {index a ci N : Nat} {fs : List Value} {CN ref : String} {T : u_T} {v : Value} {w2 : zcW} (f : Nat) (hc : vwCl[ci]? = some (CN, T, N)) (hu : ∀ w ∈ u_ws CN T N, w ∈ hk_tb) (ty0 : Nat → FieldType) (hty : ∀ k, k < N → parseFieldDescriptor (T k).2.2.1 = some (ty0 k)) (hnm : ∀ a, a < N → ∀ b, b < N → a ≠ b → (T a).2.1 ≠ (T b).2.1) (hf : f < N) (hw : w a = some (.inr (ci, fs))) (h9 : zc_u w a (.inr (ci, fs.set f v)) = w2) (hl : Cond.fieldLink own index ref (T f).2.1 (T f).2.2.1 ∈ hk_tb) (hr : (T f).1 = ref) (hfin : (T f).2.2.2 = false) {ty : FieldType} (hd : parseFieldDescriptor (T f).2.2.1 = some ty) (hn : narrow ty v = v) (hfit : fits ty v = true) (hlen : f < fs.length) (d : decode cc pc = .ok (.putfield index, 3)) (k : hvV p l e R s m args below meth c nL B cells slots Q (zc_I D B w2 n H0) (pc + 3) loc stk) : hvV p l e R s m args below meth c nL B cells slots Q (zc_I D B w n H0) pc loc (v :: .ref a :: stk) := by
  subst h9
  intro H locs ls h1 h2 h3
  have hap := va_apart (own := own) C.2.2.2.2 hu ty0 hty hnm K.1 hc
  obtain ⟨r, h1', cell, q1, q2, q3, q4⟩ := h1.1 a _ hw
  have hr' : r = (CN, T, N) := Option.some.inj (h1'.symm.trans hc)
  subst hr'
  obtain ⟨hS, hfc, kC, hkC, hkind⟩ := K.1.1 ci _ hc
  obtain ⟨cf, kf, fi, fd, hi, hsl⟩ := hS f hf
  have hlay := C.2.2.2.2 _ (hu _ (u_in_lay hf))
  unfold u_lay at hlay
  rw [if_neg (by rw [hfin]; decide)] at hlay
  have hst := (u_facts hfc hkC (u_lays C.2.2.2.2 hu hf) hi).1
  have h6 := u_store hfc hkC hkind hlay hi hd hn hfit
  refine W.putK C.1 C.2.1 (f := fd) ⟨C.2.2.2.1, C.2.2.2.2 _ hl, ⟨_, _, _, by rw [hr] at hi; exact hi⟩, hst⟩ (by rw [q2]; exact h6) q1 q3 (by rw [hsl]; exact k2_hasslot (q4 f hf)) rfl rfl d fun H' e1 e2 e3 => ?_
  rw [hsl] at e1 ⊢
  refine k H' _ ls (h1.set hw ⟨_, hc, t_OB.to (V := updV (vp_V fs) f v) ⟨_, e1, q2, q3, t_set q4 hap hf v⟩ (fun j _ => vp_updV_set hlen v j)⟩ e2 e3) (fun x hx => ?_) h3
  rcases List.mem_append.mp hx with h | h
  · exact h2 x h
  · rw [List.mem_singleton.mp h]; exact h1.2.2.1.1 a _ hw
theorem zc_iald (C : CallFix p m c cc nL s args hk_tb own) (K : clK D ar s) {a N : Nat} {f : Nat → Int} {z : Int} (i : Nat) (hw : w a = some (.inl (ar 0, N, .inl (fun q => iz (f q))))) (hz : z = (i : Int)) (hi : i < N) (hN : N ≤ 2147483647) (d : decode cc pc = .ok (.iaload, 1)) (k : hvV p l e R s m args below meth c nL B cells slots Q (zc_I D B w n H0) (pc + 1) loc (.int (iz (f i)) :: stk)) : hvV p l e R s m args below meth c nL B cells slots Q (zc_I D B w n H0) pc loc (.int (iz z) :: .ref a :: stk) := by
  subst hz
  intro H locs ls h1 h2 h3
  refine va_iald (cl := vwCl) C.1 C.2.1 K.1 (zc_1 h1.1 hw) 0 0 rfl rfl (iz_in (by omega) (by omega) hN) d ?_
  rw [iz_clamp (by omega) (by omega)]
  exact k H locs ls h1 h2 h3
theorem zc_bald (C : CallFix p m c cc nL s args hk_tb own) (K : clK D ar s) {a N : Nat} {f : Nat → Int} {z : Int} (i : Nat) (hw : w a = some (.inl (ar 1, N, .inl (fun q => iz (f q))))) (hz : z = (i : Int)) (hi : i < N) (hN : N ≤ 2147483647) (d : decode cc pc = .ok (.baload, 1)) (k : hvV p l e R s m args below meth c nL B cells slots Q (zc_I D B w n H0) (pc + 1) loc (.int (iz (f i)) :: stk)) : hvV p l e R s m args below meth c nL B cells slots Q (zc_I D B w n H0) pc loc (.int (iz z) :: .ref a :: stk) := by
  subst hz
  intro H locs ls h1 h2 h3
  refine va_bald (cl := vwCl) C.1 C.2.1 K.1 (zc_1 h1.1 hw) 0 1 rfl rfl (iz_in (by omega) (by omega) hN) d ?_
  rw [iz_clamp (by omega) (by omega)]
  exact k H locs ls h1 h2 h3
theorem zc_aald (C : CallFix p m c cc nL s args hk_tb own) (K : clK D ar s) {a N : Nat} {f : Nat → Option Nat} {z : Int} {cA : ClassId} {E : String} (t i : Nat) (hw : w a = some (.inl (cA, N, .inr (.inr (.inr (.inr f)))))) (ht : (clT ar)[t]? = some (cA, .object E)) (hz : z = (i : Int)) (hi : i < N) (hN : N ≤ 2147483647) (d : decode cc pc = .ok (.aaload, 1)) (k : hvV p l e R s m args below meth c nL B cells slots Q (zc_I D B w n H0) (pc + 1) loc (va_rf (f i) :: stk)) : hvV p l e R s m args below meth c nL B cells slots Q (zc_I D B w n H0) pc loc (.int (iz z) :: .ref a :: stk) := by
  subst hz
  intro H locs ls h1 h2 h3
  refine va_aldq (cl := vwCl) C.1 C.2.1 K.1 (zc_1 h1.1 hw) 0 t rfl ht (iz_in (by omega) (by omega) hN) d ?_
  rw [iz_clamp (by omega) (by omega)]
  exact k H locs ls h1 h2 h3
theorem zc_iast (C : CallFix p m c cc nL s args hk_tb own) (K : clK D ar s) {a N : Nat} {f : Nat → Int} {z x : Int} {w2 : zcW} (i : Nat) (hw : w a = some (.inl (ar 0, N, .inl (fun q => iz (f q))))) (h9 : zc_u w a (.inl (ar 0, N, .inl (fun q => iz (ua f i x q)))) = w2) (hz : z = (i : Int)) (hi : i < N) (hN : N ≤ 2147483647) (d : decode cc pc = .ok (.iastore, 1)) (k : hvV p l e R s m args below meth c nL B cells slots Q (zc_I D B w2 n H0) (pc + 1) loc stk) : hvV p l e R s m args below meth c nL B cells slots Q (zc_I D B w n H0) pc loc (.int (iz x) :: .int (iz z) :: .ref a :: stk) := by
  subst hz
  subst h9
  intro H locs ls h1 h2 h3
  have hin : vp_in (iz (i : Int)) N := iz_in (by omega) (by omega) hN
  have hcl : (iz (i : Int)).toNatClampNeg = i := by rw [iz_clamp (by omega) (by omega)]; omega
  refine W.iast C.1 C.2.1 (h1.1 a _ hw) ((K.1.2 0 _ rfl).1 N (fun q => .int (iz (f q)))) (fun q => by cases q) (by show ¬ (iz (i : Int) < 0 ∨ (arrV _ _ _).slots.size ≤ _); rw [arrV_size]; exact hin) rfl rfl d fun H1 e z oq => ?_
  refine k H1 _ ls (h1.set hw ?_ z oq) (fun x hx => ?_) h3
  · show H1[a]? = some (vp_cell _ _)
    rw [e, hcl]
    rw [vp_cell_i, vp_cell_i, arrV_store]
    congr 2
    funext q
    by_cases hq : q = i
    · subst hq
      simp [updV, ua]
    · simp [updV, ua, hq]
  · rcases List.mem_append.mp hx with h | h
    · exact h2 x h
    · rw [List.mem_singleton.mp h]; exact h1.2.2.1.1 a _ hw
theorem zc_bast (C : CallFix p m c cc nL s args hk_tb own) (K : clK D ar s) {a N : Nat} {f : Nat → Int} {z x y : Int} {w2 : zcW} (i : Nat) (hw : w a = some (.inl (ar 1, N, .inl (fun q => iz (f q))))) (hy : vp_nar .byte (iz x) = iz y) (h9 : zc_u w a (.inl (ar 1, N, .inl (fun q => iz (ua f i y q)))) = w2) (hz : z = (i : Int)) (hi : i < N) (hN : N ≤ 2147483647) (d : decode cc pc = .ok (.bastore, 1)) (k : hvV p l e R s m args below meth c nL B cells slots Q (zc_I D B w2 n H0) (pc + 1) loc stk) : hvV p l e R s m args below meth c nL B cells slots Q (zc_I D B w n H0) pc loc (.int (iz x) :: .int (iz z) :: .ref a :: stk) := by
  subst hz
  subst h9
  intro H locs ls h1 h2 h3
  have hin : vp_in (iz (i : Int)) N := iz_in (by omega) (by omega) hN
  have hcl : (iz (i : Int)).toNatClampNeg = i := by rw [iz_clamp (by omega) (by omega)]; omega
  refine W.bast C.1 C.2.1 (h1.1 a _ hw) ((K.1.2 1 _ rfl).1 N (fun q => .int (iz (f q)))) (fun q => by cases q) (by show ¬ (iz (i : Int) < 0 ∨ (arrV _ _ _).slots.size ≤ _); rw [arrV_size]; exact hin) rfl rfl d fun H1 e z oq => ?_
  refine k H1 _ ls (h1.set hw ?_ z oq) (fun x hx => ?_) h3
  · show H1[a]? = some (vp_cell _ _)
    rw [e, hcl]
    rw [vp_cell_i, vp_cell_i, arrV_store]
    congr 2
    funext q
    by_cases hq : q = i
    · subst hq
      have hy2 : narrow .byte (.int (iz x)) = .int (vp_nar .byte (iz x)) := rfl
      simp [updV, ua, ← hy, hy2]
    · simp [updV, ua, hq]
  · rcases List.mem_append.mp hx with h | h
    · exact h2 x h
    · rw [List.mem_singleton.mp h]; exact h1.2.2.1.1 a _ hw
theorem zc_alen (C : CallFix p m c cc nL s args hk_tb own) (K : clK D ar s) {a N : Nat} {x : vp_A} {cA : ClassId} {ty : FieldType} (t : Nat) (hw : w a = some (.inl (cA, x))) (ht : (clT ar)[t]? = some (cA, ty)) (hx : x.1 = N) (d : decode cc pc = .ok (.arraylength, 1)) (k : hvV p l e R s m args below meth c nL B cells slots Q (zc_I D B w n H0) (pc + 1) loc (.int (iz (N : Int)) :: stk)) : hvV p l e R s m args below meth c nL B cells slots Q (zc_I D B w n H0) pc loc (.ref a :: stk) := fun H locs ls h1 h2 h3 => va_alen (cl := vwCl) C.1 C.2.1 K.1 (zc_1 h1.1 hw) 0 t rfl ht (by rw [hx]; rfl) d (k H locs ls h1 h2 h3)
theorem zc_iret (C : CallFix p m c cc nL s args hk_tb own) (hr : meth.sig.returnType = some .int) (hlk : meth.locks = false) {x : Int} {Po : Option Value → zcW → Nat → Prop} (hp : Po (some (.int (iz x))) w n) (d : decode cc pc = .ok (.ireturn, 1)) : hvV p l e R s m args below meth c nL B cells slots (MQ below (zc_Q D B Po) args s cells slots B) (zc_I D B w n s.heap) pc loc [.int (iz x)] := by
  intro H locs ls h1 h2 h3
  exact W.iret C.1 C.2.1 hr (fun t ht hW => ⟨_, _, _, hp, rfl, by rw [ht]; exact h1⟩) h2 d hlk
theorem zc_zret (C : CallFix p m c cc nL s args hk_tb own) (hr : meth.sig.returnType = some .boolean) (hlk : meth.locks = false) {x : Int} {v : Bool} {Po : Option Value → zcW → Nat → Prop} (hx : x = xb v) (hp : Po (some (.int (iz (xb v)))) w n) (d : decode cc pc = .ok (.ireturn, 1)) : hvV p l e R s m args below meth c nL B cells slots (MQ below (zc_Q D B Po) args s cells slots B) (zc_I D B w n s.heap) pc loc [.int (iz x)] := by
  subst hx
  intro H locs ls h1 h2 h3
  exact W.zret C.1 C.2.1 hr (by cases v <;> rfl) (fun t ht hW => ⟨_, _, _, hp, rfl, by rw [ht]; exact h1⟩) h2 d hlk
theorem zc_vret (C : CallFix p m c cc nL s args hk_tb own) (hr : meth.sig.returnType = none) (hlk : meth.locks = false) {Po : Option Value → zcW → Nat → Prop} (hp : Po none w n) (d : decode cc pc = .ok (.return_, 1)) : hvV p l e R s m args below meth c nL B cells slots (MQ below (zc_Q D B Po) args s cells slots B) (zc_I D B w n s.heap) pc loc [] := by
  intro H locs ls h1 h2 h3
  exact W.vret C.1 C.2.1 hr (fun t ht hW => ⟨_, _, _, hp, rfl, by rw [ht]; exact h1⟩) h2 d hlk
theorem zc_start {y : MethodName} {mL fr lo mc ms : Nat} {ret : Option FieldType} {as : List Value} {Po : Option Value → zcW → Nat → Prop} (hy : plainFor y = true) (hc : y.cls = own) (hn : (lg_sl as).length ≤ mL)
    (h : ∀ p e s m args below meth c, CallFix p m c cc mL s args hk_tb own → clK D ar s → meth.sig.returnType = ret → meth.locks = false → meth.name = y.name →
      hvV p l e { frames := fr, cells := mc, slots := ms, locals := lo } s m args below meth c mL B 0 0 (MQ below (zc_Q D B Po) args s mc ms B) (zc_I D B w n s.heap) 0 (lv_args 0 as) []) : zc_M l D ar B y cc mL ret fr lo mc ms as w n Po := by
  refine va_MetF (cc := cc) (maxL := mL) (ret := ret) hy rfl ?_
  intro p e s m args below meth c s₁ B1 hml hv
  obtain ⟨rfl, hP, hz, hB, hK⟩ := hv
  have hts := atoms_spec (ws := .code y cc mL ret :: hk_tb) B1.pre
  have hown : s.vm.findClass y.cls = some m.cls := findClass_of_methodNamed B1.named
  rw [hc] at hown
  have hl := lv_entry as (n := mL) hn
  rw [lg_entry_eq]
  exact h p e s m as.toArray below meth c ⟨B1.exec, B1.bytes, hml, hown, fun w hw => hts w (List.mem_cons_of_mem _ hw)⟩ hK B1.returns B1.notSynchronized (name_of_methodNamed B1.named B1.method).1 s.heap [] _ ⟨hP, hz, hB, fun _ _ => rfl⟩ (fun x hx => absurd hx List.not_mem_nil) hl
/-- what a call needs of the tables -/
def zcS (own : String) (y : MethodName) (bytes : ByteArray) (maxL : Nat) (ret : Option FieldType) (idx n : Nat) : Prop :=
  Cond.code y bytes maxL ret ∈ hk_tb ∧ Cond.methodLink own idx y ∈ hk_tb ∧ Cond.initialized y.cls ∈ hk_tb ∧ (y.cls ≠ "java/lang/invoke/MethodHandle" ∧ y.cls ≠ "java/lang/invoke/VarHandle" ∧ (parseMethodDescriptor y.desc).map (fun d => d.parameters.length) = some n) ∧ Cond.static y ∈ hk_tb
def zcV (own C : String) (y : MethodName) (bytes : ByteArray) (maxL : Nat) (ret : Option FieldType) (idx n : Nat) : Prop :=
  Cond.code y bytes maxL ret ∈ hk_tb ∧ Cond.methodLink own idx y ∈ hk_tb ∧ Cond.initialized y.cls ∈ hk_tb ∧ (y.cls ≠ "java/lang/invoke/MethodHandle" ∧ y.cls ≠ "java/lang/invoke/VarHandle" ∧ (parseMethodDescriptor y.desc).map (fun d => d.parameters.length) = some n) ∧ Cond.instanceMethod y ∈ hk_tb ∧ Cond.selects C y y ∈ hk_tb
def zcN (own host : String) (y : MethodName) (bytes : ByteArray) (maxL : Nat) (ret : Option FieldType) (idx n : Nat) : Prop :=
  Cond.code y bytes maxL ret ∈ hk_tb ∧ (own, idx, y, host) ∈ nwM ∧ Cond.initialized y.cls ∈ hk_tb ∧ (y.cls ≠ "java/lang/invoke/MethodHandle" ∧ y.cls ≠ "java/lang/invoke/VarHandle" ∧ (parseMethodDescriptor y.desc).map (fun d => d.parameters.length) = some n) ∧ Cond.static y ∈ hk_tb
theorem zc_go {Po : Option Value → zcW → Nat → Prop} {mc ms : Nat} {rest : List Value} {a : Array Value} (hr : ∀ H locs ls, zc_I D B w n H0 H → lv_has ls nL loc → va_Run p l e R s m args below meth c H locs cells slots mc ms (F0 m pc ls stk) rest (zc_Q D B Po a) B) (k : ∀ r w' n', Po r w' n' → hvV p l e R s m args below meth c nL B (cells + mc) (slots + ms) Q (zc_I D B w' n' H0) (pc + 3) loc (r.toList ++ rest)) : hvV p l e R s m args below meth c nL B cells slots Q (zc_I D B w n H0) pc loc stk := by
  intro H locs ls h1 h2 h3 T hT X
  obtain ⟨v, st₀, t, T', L, h0, X', hL, e1, e2, ⟨r, w', n', hp, hv, hI⟩, st⟩ := hr H locs ls h1 h3 T hT X
  have hv : v = r := by injection hv
  subst hv
  rw [h0] at hI
  obtain ⟨t2, a1, b1⟩ := k v w' n' hp T'.heap (locs ++ L) ls ⟨by rw [e1]; exact hI.1, by rw [e1]; exact hI.2.1, hI.2.2.1, fun q hq => by rw [e1, hI.2.2.2 q hq]; exact h1.2.2.2 q hq⟩ (fun x hx => (List.mem_append.mp hx).elim (h2 x) (hL x)) h3 T' rfl X'
  exact ⟨t2, st t2 a1, b1⟩
theorem zc_callS {y : MethodName} {bytes : ByteArray} {maxL : Nat} {ret : Option FieldType} {fr lo idx mc ms : Nat} {Po : Option Value → zcW → Nat → Prop} (As rest : List Value) (C : CallFix p m c cc nL s args hk_tb own) (K : clK D ar s) (hM : zc_M l D ar B y bytes maxL ret fr lo mc ms As w n Po) (ck : zcS own y bytes maxL ret idx As.length) (hR : fr + 1 ≤ R.frames ∧ 8 + (maxL + 11) + lo ≤ R.locals) (hf : cells + mc ≤ R.cells ∧ slots + ms ≤ R.slots) (hs : stk = As.reverse ++ rest) (hW : (rest.map fun v => v.category).sum ≤ 8) (d : decode cc pc = .ok (.invokestatic idx, 3)) (k : ∀ r w' n', Po r w' n' → hvV p l e R s m args below meth c nL B (cells + mc) (slots + ms) Q (zc_I D B w' n' H0) (pc + 3) loc (r.toList ++ rest)) : hvV p l e R s m args below meth c nL B cells slots Q (zc_I D B w n H0) pc loc stk :=
  zc_go (fun H locs ls h1 h3 => va_runS (Ts := hk_tb) (As := As) (rest := rest) C hM (n := As.length) ⟨callB_of As.length C.2.2.2.2 (hk_goodIn ck.1) rfl rfl rfl (C.2.2.2.2 _ ck.2.2.1) (C.2.2.2.2 _ ck.2.1) ck.2.2.2.1 hR, C.2.2.2.2 _ ck.2.2.2.2⟩ ⟨fun a U g mk q => ⟨q.1, q.2.1, q.2.2.1, q.2.2.2.1, clK.blind (U := U.calling g mk a) rfl q.2.2.2.2⟩, fun U hU hW => ⟨rfl, by rw [hU]; exact h1.1, by rw [hU]; exact h1.2.1, h1.2.2.1, K.warm hW⟩⟩ rfl rfl h3.1 hs (lv_room hW) d hf) k
theorem zc_callN {y : MethodName} {bytes : ByteArray} {maxL : Nat} {ret : Option FieldType} {fr lo idx mc ms : Nat} {host : String} {Po : Option Value → zcW → Nat → Prop} (As rest : List Value) (C : CallFix p m c cc nL s args hk_tb own) (K : clK D ar s) (hM : zc_M l D ar B y bytes maxL ret fr lo mc ms As w n Po) (ck : zcN own host y bytes maxL ret idx As.length) (hR : fr + 1 ≤ R.frames ∧ 8 + (maxL + 11) + lo ≤ R.locals) (hf : cells + mc ≤ R.cells ∧ slots + ms ≤ R.slots) (hs : stk = As.reverse ++ rest) (hW : (rest.map fun v => v.category).sum ≤ 8) (d : decode cc pc = .ok (.invokestatic idx, 3)) (k : ∀ r w' n', Po r w' n' → hvV p l e R s m args below meth c nL B (cells + mc) (slots + ms) Q (zc_I D B w' n' H0) (pc + 3) loc (r.toList ++ rest)) : hvV p l e R s m args below meth c nL B cells slots Q (zc_I D B w n H0) pc loc stk :=
  zc_go (fun H locs ls h1 h3 => va_runSN (Ts := hk_tb) (As := As) (rest := rest) C hM (n := As.length) ⟨va_cnB As.length C.2.2.2.2 (hk_goodIn ck.1) rfl rfl rfl (K.2.1 _ ck.2.1) (C.2.2.2.2 _ ck.2.2.1) ck.2.2.2.1 hR, C.2.2.2.2 _ ck.2.2.2.2, trivial⟩ ⟨fun a U g mk q => ⟨q.1, q.2.1, q.2.2.1, q.2.2.2.1, clK.blind (U := U.calling g mk a) rfl q.2.2.2.2⟩, fun U hU hW => ⟨rfl, by rw [hU]; exact h1.1, by rw [hU]; exact h1.2.1, h1.2.2.1, K.warm hW⟩⟩ rfl rfl h3.1 hs (lv_room hW) d hf) k
theorem zc_callV {y : MethodName} {bytes : ByteArray} {maxL : Nat} {ret : Option FieldType} {fr lo idx mc ms a ci : Nat} {fs : List Value} {q : vw_C} {Po : Option Value → zcW → Nat → Prop} (As rest : List Value) (C : CallFix p m c cc nL s args hk_tb own) (K : clK D ar s) (hw : w a = some (.inr (ci, fs))) (hc : vwCl[ci]? = some q) (hM : zc_M l D ar B y bytes maxL ret fr lo mc ms (.ref a :: As) w n Po) (ck : zcV own q.1 y bytes maxL ret idx As.length) (hR : fr + 1 ≤ R.frames ∧ 8 + (maxL + 11) + lo ≤ R.locals) (hf : cells + mc ≤ R.cells ∧ slots + ms ≤ R.slots) (hs : stk = As.reverse ++ .ref a :: rest) (hW : (rest.map fun v => v.category).sum ≤ 8) (d : decode cc pc = .ok (.invokevirtual idx, 3)) (k : ∀ r w' n', Po r w' n' → hvV p l e R s m args below meth c nL B (cells + mc) (slots + ms) Q (zc_I D B w' n' H0) (pc + 3) loc (r.toList ++ rest)) : hvV p l e R s m args below meth c nL B cells slots Q (zc_I D B w n H0) pc loc stk :=
  zc_go (fun H locs ls h1 h3 => va_runV (Ts := hk_tb) (As := As) (b := a) (rest := rest) C hM (C := q.1) (n := As.length) ⟨callB_of As.length C.2.2.2.2 (hk_goodIn ck.1) rfl rfl rfl (C.2.2.2.2 _ ck.2.2.1) (C.2.2.2.2 _ ck.2.1) ck.2.2.2.1 hR, C.2.2.2.2 _ ck.2.2.2.2.1, C.2.2.2.2 _ ck.2.2.2.2.2⟩ ⟨fun a U g mk q => ⟨q.1, q.2.1, q.2.2.1, q.2.2.2.1, clK.blind (U := U.calling g mk a) rfl q.2.2.2.2⟩, va_recv K.1 (zc_1 h1.1 hw) (q0 := 0) hc rfl, fun U hU hW => ⟨rfl, by rw [hU]; exact h1.1, by rw [hU]; exact h1.2.1, h1.2.2.1, K.warm hW⟩⟩ rfl rfl h3.1 hs (lv_room hW) d hf) k
end ZC

