/-! the law's loop -/
section LL
variable {p : Program} {l : Launch} {e : Env} {s : State} {m : MethodId} {args : Array Value} {below : List Frame} {meth : Method} {c : Code} {Q : State → Prop} {D : va_G} {ar : Nat → ClassId} {b : Nat} {w : zcW} {n : Nat} {cells slots : Nat} {o : olP} {σ : Nat → Nat → Int} {a0 L : Nat} {xs : Nat → Int32} {i : Nat}
theorem lw_sw {R : Room} {nL : Nat} {FR : Nat → Prop} {HI : Heap → Prop} {loc : List (Nat × Value)} {stk : List Value} {own : String} {x : Int32} (C : CallFix p m c code nL s args hk_tb own) (kd : hvV p l e R s m args below meth c nL FR cells slots Q HI 1614 loc stk) (k0 : hvV p l e R s m args below meth c nL FR cells slots Q HI 200 loc stk) (k1 : hvV p l e R s m args below meth c nL FR cells slots Q HI 213 loc stk) (k2 : hvV p l e R s m args below meth c nL FR cells slots Q HI 266 loc stk) (k3 : hvV p l e R s m args below meth c nL FR cells slots Q HI 309 loc stk) (k4 : hvV p l e R s m args below meth c nL FR cells slots Q HI 352 loc stk) (k5 : hvV p l e R s m args below meth c nL FR cells slots Q HI 395 loc stk) (k6 : hvV p l e R s m args below meth c nL FR cells slots Q HI 438 loc stk) (k7 : hvV p l e R s m args below meth c nL FR cells slots Q HI 461 loc stk) (k8 : hvV p l e R s m args below meth c nL FR cells slots Q HI 484 loc stk) (k9 : hvV p l e R s m args below meth c nL FR cells slots Q HI 527 loc stk) (k10 : hvV p l e R s m args below meth c nL FR cells slots Q HI 560 loc stk) (k11 : hvV p l e R s m args below meth c nL FR cells slots Q HI 647 loc stk) (k12 : hvV p l e R s m args below meth c nL FR cells slots Q HI 710 loc stk) (k13 : hvV p l e R s m args below meth c nL FR cells slots Q HI 743 loc stk) (k14 : hvV p l e R s m args below meth c nL FR cells slots Q HI 776 loc stk) (k15 : hvV p l e R s m args below meth c nL FR cells slots Q HI 839 loc stk) (k16 : hvV p l e R s m args below meth c nL FR cells slots Q HI 862 loc stk) (k17 : hvV p l e R s m args below meth c nL FR cells slots Q HI 885 loc stk) (k18 : hvV p l e R s m args below meth c nL FR cells slots Q HI 908 loc stk) (k19 : hvV p l e R s m args below meth c nL FR cells slots Q HI 951 loc stk) (k20 : hvV p l e R s m args below meth c nL FR cells slots Q HI 1020 loc stk) (k21 : hvV p l e R s m args below meth c nL FR cells slots Q HI 1063 loc stk) (k22 : hvV p l e R s m args below meth c nL FR cells slots Q HI 1096 loc stk) (k23 : hvV p l e R s m args below meth c nL FR cells slots Q HI 1129 loc stk) (k24 : hvV p l e R s m args below meth c nL FR cells slots Q HI 1162 loc stk) (k25 : hvV p l e R s m args below meth c nL FR cells slots Q HI 1185 loc stk) (k26 : hvV p l e R s m args below meth c nL FR cells slots Q HI 1228 loc stk) (k27 : hvV p l e R s m args below meth c nL FR cells slots Q HI 1271 loc stk) (k28 : hvV p l e R s m args below meth c nL FR cells slots Q HI 1314 loc stk) (k29 : hvV p l e R s m args below meth c nL FR cells slots Q HI 1347 loc stk) (k30 : hvV p l e R s m args below meth c nL FR cells slots Q HI 1390 loc stk) (k31 : hvV p l e R s m args below meth c nL FR cells slots Q HI 1423 loc stk) (k32 : hvV p l e R s m args below meth c nL FR cells slots Q HI 1456 loc stk) (k33 : hvV p l e R s m args below meth c nL FR cells slots Q HI 1479 loc stk) (k34 : hvV p l e R s m args below meth c nL FR cells slots Q HI 1522 loc stk) (k35 : hvV p l e R s m args below meth c nL FR cells slots Q HI 1545 loc stk) (k36 : hvV p l e R s m args below meth c nL FR cells slots Q HI 1568 loc stk) (k37 : hvV p l e R s m args below meth c nL FR cells slots Q HI 1591 loc stk) : hvV p l e R s m args below meth c nL FR cells slots Q HI 33 loc (.int x :: stk) := by
  intro H locs ls h1 h2 h3
  by_cases ho : x.toInt < 0 ∨ 37 < x.toInt
  · exact lv_tableOut C.1 C.2.1 dL_33 ho rfl (kd H locs ls h1 h2 h3)
  · obtain ⟨z, hz, hz2⟩ : ∃ z : Nat, x.toInt = (z : Int) ∧ z < 38 := ⟨x.toInt.toNat, by omega, by omega⟩
    rcases (by omega : z = 0 ∨ z = 1 ∨ z = 2 ∨ z = 3 ∨ z = 4 ∨ z = 5 ∨ z = 6 ∨ z = 7 ∨ z = 8 ∨ z = 9 ∨ z = 10 ∨ z = 11 ∨ z = 12 ∨ z = 13 ∨ z = 14 ∨ z = 15 ∨ z = 16 ∨ z = 17 ∨ z = 18 ∨ z = 19 ∨ z = 20 ∨ z = 21 ∨ z = 22 ∨ z = 23 ∨ z = 24 ∨ z = 25 ∨ z = 26 ∨ z = 27 ∨ z = 28 ∨ z = 29 ∨ z = 30 ∨ z = 31 ∨ z = 32 ∨ z = 33 ∨ z = 34 ∨ z = 35 ∨ z = 36 ∨ z = 37) with rfl | rfl | rfl | rfl | rfl | rfl | rfl | rfl | rfl | rfl | rfl | rfl | rfl | rfl | rfl | rfl | rfl | rfl | rfl | rfl | rfl | rfl | rfl | rfl | rfl | rfl | rfl | rfl | rfl | rfl | rfl | rfl | rfl | rfl | rfl | rfl | rfl | rfl
    · exact lv_tableIn C.1 C.2.1 dL_33 (by omega) (by omega) (by rw [hz]; rfl) rfl (k0 H locs ls h1 h2 h3)
    · exact lv_tableIn C.1 C.2.1 dL_33 (by omega) (by omega) (by rw [hz]; rfl) rfl (k1 H locs ls h1 h2 h3)
    · exact lv_tableIn C.1 C.2.1 dL_33 (by omega) (by omega) (by rw [hz]; rfl) rfl (k2 H locs ls h1 h2 h3)
    · exact lv_tableIn C.1 C.2.1 dL_33 (by omega) (by omega) (by rw [hz]; rfl) rfl (k3 H locs ls h1 h2 h3)
    · exact lv_tableIn C.1 C.2.1 dL_33 (by omega) (by omega) (by rw [hz]; rfl) rfl (k4 H locs ls h1 h2 h3)
    · exact lv_tableIn C.1 C.2.1 dL_33 (by omega) (by omega) (by rw [hz]; rfl) rfl (k5 H locs ls h1 h2 h3)
    · exact lv_tableIn C.1 C.2.1 dL_33 (by omega) (by omega) (by rw [hz]; rfl) rfl (k6 H locs ls h1 h2 h3)
    · exact lv_tableIn C.1 C.2.1 dL_33 (by omega) (by omega) (by rw [hz]; rfl) rfl (k7 H locs ls h1 h2 h3)
    · exact lv_tableIn C.1 C.2.1 dL_33 (by omega) (by omega) (by rw [hz]; rfl) rfl (k8 H locs ls h1 h2 h3)
    · exact lv_tableIn C.1 C.2.1 dL_33 (by omega) (by omega) (by rw [hz]; rfl) rfl (k9 H locs ls h1 h2 h3)
    · exact lv_tableIn C.1 C.2.1 dL_33 (by omega) (by omega) (by rw [hz]; rfl) rfl (k10 H locs ls h1 h2 h3)
    · exact lv_tableIn C.1 C.2.1 dL_33 (by omega) (by omega) (by rw [hz]; rfl) rfl (k11 H locs ls h1 h2 h3)
    · exact lv_tableIn C.1 C.2.1 dL_33 (by omega) (by omega) (by rw [hz]; rfl) rfl (k12 H locs ls h1 h2 h3)
    · exact lv_tableIn C.1 C.2.1 dL_33 (by omega) (by omega) (by rw [hz]; rfl) rfl (k13 H locs ls h1 h2 h3)
    · exact lv_tableIn C.1 C.2.1 dL_33 (by omega) (by omega) (by rw [hz]; rfl) rfl (k14 H locs ls h1 h2 h3)
    · exact lv_tableIn C.1 C.2.1 dL_33 (by omega) (by omega) (by rw [hz]; rfl) rfl (k15 H locs ls h1 h2 h3)
    · exact lv_tableIn C.1 C.2.1 dL_33 (by omega) (by omega) (by rw [hz]; rfl) rfl (k16 H locs ls h1 h2 h3)
    · exact lv_tableIn C.1 C.2.1 dL_33 (by omega) (by omega) (by rw [hz]; rfl) rfl (k17 H locs ls h1 h2 h3)
    · exact lv_tableIn C.1 C.2.1 dL_33 (by omega) (by omega) (by rw [hz]; rfl) rfl (k18 H locs ls h1 h2 h3)
    · exact lv_tableIn C.1 C.2.1 dL_33 (by omega) (by omega) (by rw [hz]; rfl) rfl (k19 H locs ls h1 h2 h3)
    · exact lv_tableIn C.1 C.2.1 dL_33 (by omega) (by omega) (by rw [hz]; rfl) rfl (k20 H locs ls h1 h2 h3)
    · exact lv_tableIn C.1 C.2.1 dL_33 (by omega) (by omega) (by rw [hz]; rfl) rfl (k21 H locs ls h1 h2 h3)
    · exact lv_tableIn C.1 C.2.1 dL_33 (by omega) (by omega) (by rw [hz]; rfl) rfl (k22 H locs ls h1 h2 h3)
    · exact lv_tableIn C.1 C.2.1 dL_33 (by omega) (by omega) (by rw [hz]; rfl) rfl (k23 H locs ls h1 h2 h3)
    · exact lv_tableIn C.1 C.2.1 dL_33 (by omega) (by omega) (by rw [hz]; rfl) rfl (k24 H locs ls h1 h2 h3)
    · exact lv_tableIn C.1 C.2.1 dL_33 (by omega) (by omega) (by rw [hz]; rfl) rfl (k25 H locs ls h1 h2 h3)
    · exact lv_tableIn C.1 C.2.1 dL_33 (by omega) (by omega) (by rw [hz]; rfl) rfl (k26 H locs ls h1 h2 h3)
    · exact lv_tableIn C.1 C.2.1 dL_33 (by omega) (by omega) (by rw [hz]; rfl) rfl (k27 H locs ls h1 h2 h3)
    · exact lv_tableIn C.1 C.2.1 dL_33 (by omega) (by omega) (by rw [hz]; rfl) rfl (k28 H locs ls h1 h2 h3)
    · exact lv_tableIn C.1 C.2.1 dL_33 (by omega) (by omega) (by rw [hz]; rfl) rfl (k29 H locs ls h1 h2 h3)
    · exact lv_tableIn C.1 C.2.1 dL_33 (by omega) (by omega) (by rw [hz]; rfl) rfl (k30 H locs ls h1 h2 h3)
    · exact lv_tableIn C.1 C.2.1 dL_33 (by omega) (by omega) (by rw [hz]; rfl) rfl (k31 H locs ls h1 h2 h3)
    · exact lv_tableIn C.1 C.2.1 dL_33 (by omega) (by omega) (by rw [hz]; rfl) rfl (k32 H locs ls h1 h2 h3)
    · exact lv_tableIn C.1 C.2.1 dL_33 (by omega) (by omega) (by rw [hz]; rfl) rfl (k33 H locs ls h1 h2 h3)
    · exact lv_tableIn C.1 C.2.1 dL_33 (by omega) (by omega) (by rw [hz]; rfl) rfl (k34 H locs ls h1 h2 h3)
    · exact lv_tableIn C.1 C.2.1 dL_33 (by omega) (by omega) (by rw [hz]; rfl) rfl (k35 H locs ls h1 h2 h3)
    · exact lv_tableIn C.1 C.2.1 dL_33 (by omega) (by omega) (by rw [hz]; rfl) rfl (k36 H locs ls h1 h2 h3)
    · exact lv_tableIn C.1 C.2.1 dL_33 (by omega) (by omega) (by rw [hz]; rfl) rfl (k37 H locs ls h1 h2 h3)
theorem lw_body (E : lwX p m c s args D ar b o a0 L xs) (hi : i + 8 ≤ L) (hf : cells + 130 ≤ 600000 ∧ slots + 7523 ≤ 7302250) (hS : LS9 ar b o.2.1 σ w n) (k : ∀ σ9 w9 n9, LS9 ar b o.2.1 σ9 w9 n9 → hvV p l e room_1 s m args below meth c 4 (FB9 b) (cells + 130) (slots + 7523) Q (lwI D ar b s.heap σ9 w9 n9) 1614 (lwL a0 b i) []) : hvV p l e room_1 s m args below meth c 4 (FB9 b) cells slots Q (lwI D ar b s.heap σ w n) 27 (lwL a0 b i) [] := by
  have E2 := E
  obtain ⟨C, K, O, htx, X, ha, hsb, hL⟩ := E2
  refine hv_aload_n C 0 3 dL_27 rfl rfl (hv_iload_n C 3 0 dL_28 rfl rfl ?_)
  refine lw_sld C X ha hsb hL (i := i) (by omega) rfl dL_29 (hv_bipush C dL_30 rfl ?_)
  intro H locs ls h1 h2 h3
  refine lv_iand C.1 C.2.1 dL_32 ?_
  refine (?_ : hvV p l e room_1 s m args below meth c 4 (FB9 b) cells slots Q (lwI D ar b s.heap σ w n) 33 (lwL a0 b i) [.int (iz (xs i).toInt &&& iz 63)]) H locs ls h1 h2 h3
  exact lw_sw C (hv_widen (cells + 130) (slots + 7523) (by omega) (by omega) (k _ _ _ hS)) (lc_0 E hi hf hS k) (lc_1 E hi hf hS k) (lc_2 E hi hf hS k) (lc_3 E hi hf hS k) (lc_4 E hi hf hS k) (lc_5 E hi hf hS k) (lc_6 E hi hf hS k) (lc_7 E hi hf hS k) (lc_8 E hi hf hS k) (lc_9 E hi hf hS k) (lc_10 E hi hf hS k) (lc_11 E hi hf hS k) (lc_12 E hi hf hS k) (lc_13 E hi hf hS k) (lc_14 E hi hf hS k) (lc_15 E hi hf hS k) (lc_16 E hi hf hS k) (lc_17 E hi hf hS k) (lc_18 E hi hf hS k) (lc_19 E hi hf hS k) (lc_20 E hi hf hS k) (lc_21 E hi hf hS k) (lc_22 E hi hf hS k) (lc_23 E hi hf hS k) (lc_24 E hi hf hS k) (lc_25 E hi hf hS k) (lc_26 E hi hf hS k) (lc_27 E hi hf hS k) (lc_28 E hi hf hS k) (lc_29 E hi hf hS k) (lc_30 E hi hf hS k) (lc_31 E hi hf hS k) (lc_32 E hi hf hS k) (lc_33 E hi hf hS k) (lc_34 E hi hf hS k) (lc_35 E hi hf hS k) (lc_36 E hi hf hS k) (lc_37 E hi hf hS k)
theorem lw_exit (E : lwX p m c s #[Value.ref a0] D ar b o a0 L xs) (hr : meth.sig.returnType = ret) (hlk : meth.locks = false) (hf : cells ≤ 600000 ∧ slots ≤ 7302250) {loc : List (Nat × Value)} {HI : Heap → Prop} : hvV p l e room_1 s m #[Value.ref a0] below meth c 4 (FB9 b) cells slots (lw_Z below #[Value.ref a0] s) HI 1620 loc [] := by
  obtain ⟨C, K, O, htx, X, ha, hsb, hL⟩ := E
  refine hv_iconst C dL_1620 ?_
  intro H locs ls h1 h2 h3
  exact va_forget (fun q hq => by rw [hsb]; exact h2 q hq) (W.widen hf.1 hf.2 (lw_ret C.1 C.2.1 hr hlk dL_1621))
theorem lw_head (E : lwX p m c s args D ar b o a0 L xs) (hi : i ≤ 4096) (kx : hvV p l e room_1 s m args below meth c 4 (FB9 b) cells slots Q (lwI D ar b s.heap σ w n) 1620 (lwL a0 b i) []) (kb : i + 8 ≤ L → hvV p l e room_1 s m args below meth c 4 (FB9 b) cells slots Q (lwI D ar b s.heap σ w n) 27 (lwL a0 b i) []) : hvV p l e room_1 s m args below meth c 4 (FB9 b) cells slots Q (lwI D ar b s.heap σ w n) 18 (lwL a0 b i) [] := by
  obtain ⟨C, K, O, htx, X, ha, hsb, hL⟩ := E
  refine hv_iload_n C 3 0 dL_18 rfl rfl (hv_aload_n C 0 3 dL_19 rfl rfl (lw_slen C X ha hsb dL_20 (hv_bipush C dL_21 rfl (hv_isub C dL_23 ?_))))
  exact hv_icmp_gt C 1620 dL_24 rfl (by omega) (by omega) (fun _ => kx) (fun h => kb (by omega))
theorem lw_loop (E : lwX p m c s #[Value.ref a0] D ar b o a0 L xs) (hr : meth.sig.returnType = ret) (hlk : meth.locks = false) : ∀ (k j : Nat), k + j = 512 → ∀ (σ : Nat → Nat → Int) (w : zcW) (n : Nat), LS9 ar b o.2.1 σ w n → hvV p l e room_1 s m #[Value.ref a0] below meth c 4 (FB9 b) (68 + 130 * j) (16269 + 7523 * j) (lw_Z below #[Value.ref a0] s) (lwI D ar b s.heap σ w n) 18 (lwL a0 b (8 * j)) [] := by
  have hL := E.2.2.2.2.2.2.2
  intro k
  induction k with
  | zero =>
    intro j hk σ w n hS
    exact lw_head E (by omega) (lw_exit E hr hlk (by omega)) (fun h => by exfalso; omega)
  | succ k ih =>
    intro j hk σ w n hS
    refine lw_head E (by omega) (lw_exit E hr hlk (by omega)) (fun h => ?_)
    refine lw_body E h (by omega) hS (fun σ9 w9 n9 hS9 => ?_)
    refine hv_iinc E.1 3 0 [(3, .int (iz (((8 * j : Nat) : Int) + 8))), (2, .ref (b + 51)), (1, .ref b), (0, .ref a0)] dL_1614 rfl (by decide) rfl (hv_goto E.1 18 dL_1617 rfl ?_)
    have z := ih (j + 1) (by omega) σ9 w9 n9 hS9
    have e1 : ((8 * (j + 1) : Nat) : Int) = ((8 * j : Nat) : Int) + 8 := by omega
    have e2 : 68 + 130 * (j + 1) = 68 + 130 * j + 130 := by omega
    have e3 : 16269 + 7523 * (j + 1) = 16269 + 7523 * j + 7523 := by omega
    rw [e2, e3] at z
    unfold lwL at z
    rw [e1] at z
    exact z
end LL
