/-! the law's own rows: class and reference in one heap -/
def BB9 (b : Nat) : Nat → Prop := fun q => b ≤ q ∧ ¬ (b + 51 ≤ q ∧ q < b + 68)
abbrev FB9 (b : Nat) : Nat → Prop := fun q => b ≤ q
def lwI (D : va_G) (ar : Nat → ClassId) (b : Nat) (H0 : Heap) (σ : Nat → Nat → Int) (w : zcW) (n : Nat) (H : Heap) : Prop :=
  zc_P D w H ∧ H.size = n ∧ zc_B (BB9 b) w n ∧ b ≤ n ∧ va_P D vwCl (moW (ar 0) (ar 5) (b + 51) σ) H ∧ ∀ q : Nat, q < b → H[q]? = H0[q]?
theorem LS9.n {ar : Nat → ClassId} {b e0 n : Nat} {σ : Nat → Nat → Int} {w : zcW} (h : LS9 ar b e0 σ w n) : b ≤ n := by
  obtain ⟨τ, w0, Ow, h1, h2, h3⟩ := h
  have := h2.2.2.2.1
  omega
theorem LS9.b {ar : Nat → ClassId} {b e0 n : Nat} {σ : Nat → Nat → Int} {w : zcW} (h : LS9 ar b e0 σ w n) : ∃ fs : List Value, w b = some (.inr (12, fs)) := by
  obtain ⟨τ, w0, Ow, h1, h2, h3⟩ := h
  rw [h1]
  exact ⟨_, cw_0⟩
section LW
variable {p : Program} {l : Launch} {e : Env} {R : Room} {s : State} {m : MethodId} {args : Array Value} {below : List Frame} {meth : Method} {c : Code} {nL : Nat} {Q : State → Prop} {pc : Nat} {loc : List (Nat × Value)} {stk : List Value} {cc : ByteArray} {D : va_G} {ar : Nat → ClassId} {b : Nat} {w : zcW} {n : Nat} {own : String} {cells slots : Nat} {o : olP} {σ : Nat → Nat → Int}
theorem lw_callC {y : MethodName} {bytes : ByteArray} {maxL : Nat} {ret : Option FieldType} {fr lo idx mc ms : Nat} {fs : List Value} {Po : Option Value → zcW → Nat → Prop} (As rest : List Value) (C : CallFix p m c cc nL s args hk_tb own) (K : clK D ar s) (O : olk (BB9 b) o s) (hsb : s.heap.size = b) (hw : w b = some (.inr (12, fs))) (hM : zo_M l D ar (BB9 b) o y bytes maxL ret fr lo mc ms (.ref b :: As) w n Po) (ck : zcV own "HookUps" y bytes maxL ret idx As.length) (hR : fr + 1 ≤ R.frames ∧ 8 + (maxL + 11) + lo ≤ R.locals) (hf : cells + mc ≤ R.cells ∧ slots + ms ≤ R.slots) (hs : stk = As.reverse ++ .ref b :: rest) (hW : (rest.map fun v => v.category).sum ≤ 8) (hn : ∀ r w' n', Po r w' n' → b ≤ n') (d : decode cc pc = .ok (.invokevirtual idx, 3)) (k : ∀ r w' n', Po r w' n' → hvV p l e R s m args below meth c nL (FB9 b) (cells + mc) (slots + ms) Q (lwI D ar b s.heap σ w' n') (pc + 3) loc (r.toList ++ rest)) : hvV p l e R s m args below meth c nL (FB9 b) cells slots Q (lwI D ar b s.heap σ w n) pc loc stk := by
  intro H locs ls h1 h2 h3 T hT X
  have run := va_runV (Ts := hk_tb) (As := As) (b := b) (rest := rest) (e := e) (below := below) (meth := meth) (locs := locs) (H := H) (g := F0 m pc ls stk) C hM (C := "HookUps") (n := As.length) ⟨callB_of As.length C.2.2.2.2 (hk_goodIn ck.1) rfl rfl rfl (C.2.2.2.2 _ ck.2.2.1) (C.2.2.2.2 _ ck.2.1) ck.2.2.2.1 hR, C.2.2.2.2 _ ck.2.2.2.2.1, C.2.2.2.2 _ ck.2.2.2.2.2⟩ ⟨fun a U g mk q => ⟨q.1, ⟨q.2.1.1, q.2.1.2.1, q.2.1.2.2.1, clK.blind (U := U.calling g mk a) rfl q.2.1.2.2.2⟩, olK.blind (U := U.calling g mk a) rfl rfl q.2.2⟩, va_recv K.1 (zc_1 h1.1 hw) (q0 := 0) (ci := 12) rfl rfl, fun U hU hW => ⟨rfl, ⟨by rw [hU]; exact h1.1, by rw [hU]; exact h1.2.1, h1.2.2.1, K.warm hW⟩, olK.warm hW (fun a ha _ => by rw [hU]; exact h1.2.2.2.2.2 a (by omega)) O⟩⟩ rfl rfl h3.1 hs (lv_room hW) d hf
  obtain ⟨v, st₀, t, T', L, h0, X', hL, e1, e2, ⟨r, w', n', hp, hv, hI⟩, st⟩ := run T hT X
  have hv : v = r := by injection hv
  subst hv
  rw [h0] at hI
  obtain ⟨t2, a1, b1⟩ := k v w' n' hp T'.heap (locs ++ L) ls ⟨by rw [e1]; exact hI.1, by rw [e1]; exact hI.2.1, hI.2.2.1, hn _ _ _ hp, fun k q hq => (h1.2.2.2.2.1 k q hq).kept (by
    have hm := moW_ad (ar 0) (ar 5) (b + 51) σ hq
    rw [e1]
    exact hI.2.2.2 q.1 (fun z => z.2 (by omega))), fun q hq => by rw [e1, hI.2.2.2 q (fun z => absurd z.1 (by omega))]; exact h1.2.2.2.2.2 q hq⟩ (fun x hx => (List.mem_append.mp hx).elim (h2 x) (fun z => (hL x z).1)) h3 T' rfl X'
  exact ⟨t2, st t2 a1, b1⟩
theorem lw_callM {y : MethodName} {bytes : ByteArray} {maxL : Nat} {ret : Option FieldType} {fr lo idx : Nat} {r : Option Value} {σ2 : Nat → Nat → Int} (As rest : List Value) (C : CallFix p m c cc nL s args hk_tb own) (K : clK D ar s) (hM : moM l D (ar 0) (ar 5) (b + 51) y bytes maxL ret fr lo (.ref (b + 51) :: As) σ r σ2) (ck : zcV own "HookUpsModel" y bytes maxL ret idx As.length) (hR : fr + 1 ≤ R.frames ∧ 8 + (maxL + 11) + lo ≤ R.locals) (hf : cells ≤ R.cells ∧ slots ≤ R.slots) (hs : stk = As.reverse ++ .ref (b + 51) :: rest) (hW : (rest.map fun v => v.category).sum ≤ 8) (d : decode cc pc = .ok (.invokevirtual idx, 3)) (k : hvV p l e R s m args below meth c nL (FB9 b) cells slots Q (lwI D ar b s.heap σ2 w n) (pc + 3) loc (r.toList ++ rest)) : hvV p l e R s m args below meth c nL (FB9 b) cells slots Q (lwI D ar b s.heap σ w n) pc loc stk := by
  intro H locs ls h1 h2 h3 T hT X
  have K2 : va_K D vwCl (moT (ar 0) (ar 5)) s := va_K.sub K.1 [0, 5] rfl
  have run := va_runV (Ts := hk_tb) (As := As) (b := b + 51) (rest := rest) (e := e) (below := below) (meth := meth) (locs := locs) (cells := cells) (slots := slots) (H := H) (g := F0 m pc ls stk) C hM (C := "HookUpsModel") (n := As.length) ⟨callB_of As.length C.2.2.2.2 (hk_goodIn ck.1) rfl rfl rfl (C.2.2.2.2 _ ck.2.2.1) (C.2.2.2.2 _ ck.2.1) ck.2.2.2.1 hR, C.2.2.2.2 _ ck.2.2.2.2.1, C.2.2.2.2 _ ck.2.2.2.2.2⟩ ⟨fun a U g mk q => ⟨q.1, q.2.1, va_K.moved (u := U) (U := U.calling g mk a) (Vm.Alike.refl U.vm) q.2.2⟩, va_recv K2 h1.2.2.2.2.1 (ci := 13) (q0 := 0) rfl rfl, fun U hU hW => ⟨rfl, by rw [hU]; exact h1.2.2.2.2.1, va_K.moved hW.alike K2⟩⟩ rfl rfl h3.1 hs (lv_room hW) d hf
  obtain ⟨v, st₀, t, T', L, h0, X', hL, e1, e2, ⟨hv, hI⟩, st⟩ := run T hT X
  have hv : v = r := by injection hv
  subst hv
  rw [h0] at hI
  obtain ⟨t2, a1, b1⟩ := k T'.heap (locs ++ L) ls ⟨fun a x ea => (h1.1 a x ea).kept (by
    have hm := h1.2.2.1.1 a x ea
    show T'.heap[a]? = H[a]?
    rw [e1]
    exact hI.2.2 a (fun z => hm.2 (by omega))), by rw [e1]; exact hI.2.1.trans h1.2.1, h1.2.2.1, h1.2.2.2.1, by rw [e1]; exact hI.1, fun q hq => by rw [e1, hI.2.2 q (by omega)]; exact h1.2.2.2.2.2 q hq⟩ (fun x hx => (List.mem_append.mp hx).elim (h2 x) (fun z => by have := hL x z; show b ≤ x.base; omega)) h3 T' rfl X'
  exact ⟨t2, st t2 a1, b1⟩
theorem lw_vS {H0 H : Heap} {locs : List Loc} (hsb : H0.size = b) (h1 : lwI D ar b H0 σ w n H) (h2 : ∀ x ∈ locs, FB9 b x.base) : va_S (FB9 b) H0 H locs := ⟨by rw [h1.2.1, hsb]; exact h1.2.2.2.1, fun q hq _ => h1.2.2.2.2.2 q (by omega), h2⟩
/-- a number of the script -/
theorem lw_sld {a0 L i : Nat} {xs : Nat → Int32} {z : Int} (C : CallFix p m c cc nL s args hk_tb own) (X : va_X a0 L xs s s.heap) (ha : a0 < b) (hsb : s.heap.size = b) (hL : L ≤ 4096) (hi : i < L) (hz : z = (i : Int)) (d : decode cc pc = .ok (.iaload, 1)) (k : hvV p l e R s m args below meth c nL (FB9 b) cells slots Q (lwI D ar b s.heap σ w n) (pc + 1) loc (.int (iz (xs i).toInt) :: stk)) : hvV p l e R s m args below meth c nL (FB9 b) cells slots Q (lwI D ar b s.heap σ w n) pc loc (.int (iz z) :: .ref a0 :: stk) := by
  subst hz
  intro H locs ls h1 h2 h3
  refine va_sld (A := FB9 b) C.1 C.2.1 X (by omega) (by show ¬ b ≤ a0; omega) (lw_vS hsb h1 h2) (iz_in (by omega) (by omega) (by omega)) d ?_
  rw [iz_clamp (by omega) (by omega)]
  have := k H locs ls h1 h2 h3
  rw [iz_of] at this
  exact this
theorem lw_slen {a0 L : Nat} {xs : Nat → Int32} (C : CallFix p m c cc nL s args hk_tb own) (X : va_X a0 L xs s s.heap) (ha : a0 < b) (hsb : s.heap.size = b) (d : decode cc pc = .ok (.arraylength, 1)) (k : hvV p l e R s m args below meth c nL (FB9 b) cells slots Q (lwI D ar b s.heap σ w n) (pc + 1) loc (.int (iz (L : Int)) :: stk)) : hvV p l e R s m args below meth c nL (FB9 b) cells slots Q (lwI D ar b s.heap σ w n) pc loc (.ref a0 :: stk) := by
  intro H locs ls h1 h2 h3
  exact va_slen (A := FB9 b) C.1 C.2.1 X (by omega) (by show ¬ b ≤ a0; omega) (lw_vS hsb h1 h2) d (k H locs ls h1 h2 h3)
abbrev lwL (a0 b i : Nat) : List (Nat × Value) := [(3, .int (iz (i : Int))), (2, .ref (b + 51)), (1, .ref b), (0, .ref a0)]
/-- script[i + k] -/
theorem lw_arg {a0 L i : Nat} {xs : Nat → Int32} (kk : Nat) (C : CallFix p m c cc nL s args hk_tb own) (X : va_X a0 L xs s s.heap) (ha : a0 < b) (hsb : s.heap.size = b) (hL : L ≤ 4096) (hi : i + kk < L) (d0 : decode cc pc = .ok (.aload_n 0, 1)) (d1 : decode cc (pc + 1) = .ok (.iload_n 3, 1)) (d2 : decode cc (pc + 2) = .ok (.iconst (kk : Int), 1)) (d3 : decode cc (pc + 3) = .ok (.iadd, 1)) (d4 : decode cc (pc + 4) = .ok (.iaload, 1)) (k : hvV p l e R s m args below meth c nL (FB9 b) cells slots Q (lwI D ar b s.heap σ w n) (pc + 5) (lwL a0 b i) (.int (iz (xs (i + kk)).toInt) :: stk)) : hvV p l e R s m args below meth c nL (FB9 b) cells slots Q (lwI D ar b s.heap σ w n) pc (lwL a0 b i) stk :=
  hv_aload_n C 0 3 d0 rfl rfl (hv_iload_n C 3 0 d1 rfl rfl (hv_iconst C d2 (hv_iadd C d3 (lw_sld C X ha hsb hL hi (by omega) d4 k))))
theorem lw_argb {a0 L i : Nat} {xs : Nat → Int32} (kk : Nat) (C : CallFix p m c cc nL s args hk_tb own) (X : va_X a0 L xs s s.heap) (ha : a0 < b) (hsb : s.heap.size = b) (hL : L ≤ 4096) (hi : i + kk < L) (hk : (Int8.ofInt (kk : Int)).toInt32 = iz (kk : Int)) (d0 : decode cc pc = .ok (.aload_n 0, 1)) (d1 : decode cc (pc + 1) = .ok (.iload_n 3, 1)) (d2 : decode cc (pc + 2) = .ok (.bipush (kk : Int), 2)) (d3 : decode cc (pc + 4) = .ok (.iadd, 1)) (d4 : decode cc (pc + 5) = .ok (.iaload, 1)) (k : hvV p l e R s m args below meth c nL (FB9 b) cells slots Q (lwI D ar b s.heap σ w n) (pc + 6) (lwL a0 b i) (.int (iz (xs (i + kk)).toInt) :: stk)) : hvV p l e R s m args below meth c nL (FB9 b) cells slots Q (lwI D ar b s.heap σ w n) pc (lwL a0 b i) stk :=
  hv_aload_n C 0 3 d0 rfl rfl (hv_iload_n C 3 0 d1 rfl rfl (hv_bipush C d2 hk (hv_iadd C d3 (lw_sld C X ha hsb hL hi (by omega) d4 k))))
section ANY
variable {FR : Nat → Prop} {HI : Heap → Prop}
theorem lw_bool {x : Int} (C : CallFix p m c cc nL s args hk_tb own) (hx : inI x) (d0 : decode cc pc = .ok (.ifCond .eq 7, 3)) (d1 : decode cc (pc + 3) = .ok (.iconst 1, 1)) (d2 : decode cc (pc + 4) = .ok (.goto 4, 3)) (d3 : decode cc (pc + 7) = .ok (.iconst 0, 1)) (k : hvV p l e R s m args below meth c nL FR cells slots Q HI (pc + 8) loc (.int (iz (xb (!decide (x = 0)))) :: stk)) : hvV p l e R s m args below meth c nL FR cells slots Q HI pc loc (.int (iz x) :: stk) := by
  refine hv_if_eq C (pc + 7) d0 (by omega) hx (fun h => ?_) (fun h => ?_)
  · refine hv_iconst C d3 ?_
    rw [show xb (!decide (x = 0)) = 0 from by rw [decide_eq_true h]; rfl] at k
    exact k
  · refine hv_iconst C d1 (hv_goto C (pc + 8) d2 (by omega) ?_)
    rw [show xb (!decide (x = 0)) = 1 from by rw [decide_eq_false h]; rfl] at k
    exact k
theorem lw_eq {x : Int32} {off : Int} (tgt : Nat) (C : CallFix p m c cc nL s args hk_tb own) (d : decode cc pc = .ok (.if_icmp .eq off, 3)) (ht : (pc : Int) + off = (tgt : Int)) (k : hvV p l e R s m args below meth c nL FR cells slots Q HI tgt loc stk) : hvV p l e R s m args below meth c nL FR cells slots Q HI pc loc (.int x :: .int x :: stk) := fun H locs ls h1 h2 h3 => lv_icmp_eq C.1 C.2.1 d ht (fun _ => k H locs ls h1 h2 h3) (fun q => absurd rfl q)
end ANY
end LW
/-- what is so throughout the law -/
def lwX (p : Program) (m : MethodId) (c : Code) (s : State) (args : Array Value) (D : va_G) (ar : Nat → ClassId) (b : Nat) (o : olP) (a0 L : Nat) (xs : Nat → Int32) : Prop := CallFix p m c code 4 s args hk_tb RL ∧ clK D ar s ∧ olk (BB9 b) o s ∧ tx9 o ∧ va_X a0 L xs s s.heap ∧ a0 < b ∧ s.heap.size = b ∧ L ≤ 4096
theorem bb_b {b : Nat} : ∀ q, BB9 b q → b ≤ q := fun _ h => h.1
