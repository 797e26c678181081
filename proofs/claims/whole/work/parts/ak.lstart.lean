/-! the law's beginning: a new HookUps, a new HookUpsModel -/
theorem newH_none (ar : Nat → ClassId) {e0 b a : Nat} (he : e0 < b) (h : b + 51 ≤ a) : newH ar e0 b a = none := by
  rw [newH_c, cw_nf (by unfold nf9; omega)]
  exact (ci_00 ar (n := b + 51) (Nat.le_refl _) he).2.2.1 a h
theorem lw_conv {D : va_G} {ar : Nat → ClassId} {b e0 : Nat} {H0 H : Heap} (he : e0 < b) (h : zc_I D (FB9 b) (newM ar (b + 51) (newH ar e0 b)) (b + 68) H0 H) : lwI D ar b H0 s00 (newH ar e0 b) (b + 68) H := by
  obtain ⟨h1, h2, h3, h4⟩ := h
  have hn : ∀ a, b + 51 ≤ a → newH ar e0 b a = none := fun a ha => newH_none ar he ha
  refine ⟨newM_zc hn h1, h2, ⟨fun a x ea => ?_, fun q hq => ⟨by omega, by omega⟩⟩, by omega, newM_va h1, fun q hq => h4 q (by show ¬ b ≤ q; omega)⟩
  have ha : a < b + 51 := Nat.lt_of_not_le (fun z => by rw [hn a z] at ea; cases ea)
  have hb := h3.1 a x ((newM_old ar _ ha).trans ea)
  exact ⟨hb, by omega⟩
theorem lw_ls0 (ar : Nat → ClassId) {b e0 : Nat} (he : e0 < b) : LS9 ar b e0 s00 (newH ar e0 b) (b + 68) := ⟨t00 b e0, w00 ar b, fun _ => 0, newH_c ar e0 b, ci_00 ar (by omega) he, ms_00, mt_00⟩
theorem cl_L_7 : Cond.classLink RL 7 RX11 ∈ hk_tb := hk_tq1 27 (by decide +kernel) (by decide +kernel)
theorem cl_L_10 : Cond.classLink RL 10 RX12 ∈ hk_tb := hk_tq5 121 (by decide +kernel) (by decide +kernel)
theorem is_X11 : Cond.instantiable RX11 6 ∈ hk_tb := hk_tq1 28 (by decide +kernel) (by decide +kernel)
theorem is_X12 : Cond.instantiable RX12 28 ∈ hk_tb := hk_tq5 122 (by decide +kernel) (by decide +kernel)
theorem in_X11 : Cond.initialized RX11 ∈ hk_tb := hk_tq1 1 (by decide +kernel) (by decide +kernel)
theorem in_X12 : Cond.initialized RX12 ∈ hk_tb := hk_tq1 11 (by decide +kernel) (by decide +kernel)
theorem ci_L_9 : zcI RL yX11_init cX11_init 1 9 0 := ⟨hk_tq1 31 (by decide +kernel) (by decide +kernel), hk_tq1 29 (by decide +kernel) (by decide +kernel), hk_tq1 1 (by decide +kernel) (by decide +kernel), ⟨by decide, by decide, by decide +kernel⟩, hk_tq1 30 (by decide +kernel) (by decide +kernel), rfl⟩
theorem ci_L_12 : zcI RL yX12_init cX12_init 2 12 0 := ⟨hk_tq5 125 (by decide +kernel) (by decide +kernel), hk_tq5 123 (by decide +kernel) (by decide +kernel), hk_tq1 11 (by decide +kernel) (by decide +kernel), ⟨by decide, by decide, by decide +kernel⟩, hk_tq5 124 (by decide +kernel) (by decide +kernel), rfl⟩
theorem df_X11 : ∀ j, j < 6 → defaultValue (tyX11 j) = vp_V [.null, .null, .null, .null, .null, .null] j := by
  intro j hj
  rcases (by omega : j = 0 ∨ j = 1 ∨ j = 2 ∨ j = 3 ∨ j = 4 ∨ j = 5) with rfl | rfl | rfl | rfl | rfl | rfl <;> rfl
theorem df_X12 : ∀ j, j < 28 → defaultValue (tyX12 j) = vp_V [.null, .null, .int (iz 0), .int (iz 0), .int (iz 0), .int (iz 0), .int (iz 0), .int (iz 0), .int (iz 0), .int (iz 0), .int (iz 0), .null, .null, .null, .null, .null, .null, .int (iz 0), .int (iz 0), .null, .null, .null, .null, .null, .null, .null, .null, .int (iz 0)] j := by
  intro j hj
  rcases (by omega : j = 0 ∨ j = 1 ∨ j = 2 ∨ j = 3 ∨ j = 4 ∨ j = 5 ∨ j = 6 ∨ j = 7 ∨ j = 8 ∨ j = 9 ∨ j = 10 ∨ j = 11 ∨ j = 12 ∨ j = 13 ∨ j = 14 ∨ j = 15 ∨ j = 16 ∨ j = 17 ∨ j = 18 ∨ j = 19 ∨ j = 20 ∨ j = 21 ∨ j = 22 ∨ j = 23 ∨ j = 24 ∨ j = 25 ∨ j = 26 ∨ j = 27) with rfl | rfl | rfl | rfl | rfl | rfl | rfl | rfl | rfl | rfl | rfl | rfl | rfl | rfl | rfl | rfl | rfl | rfl | rfl | rfl | rfl | rfl | rfl | rfl | rfl | rfl | rfl | rfl <;> rfl
set_option maxHeartbeats 4000000 in
theorem lw_first {p : Program} {l : Launch} {e : Env} {s : State} {m : MethodId} {below : List Frame} {meth : Method} {c : Code} {D : va_G} {ar : Nat → ClassId} {b : Nat} {o : olP} {a0 L : Nat} {xs : Nat → Int32} (E : lwX p m c s #[Value.ref a0] D ar b o a0 L xs) (O : olk (FB9 b) o s) (he : o.2.1 < b) (hr : meth.sig.returnType = ret) (hlk : meth.locks = false) : hvV p l e room_1 s m #[Value.ref a0] below meth c 4 (FB9 b) 0 0 (lw_Z below #[Value.ref a0] s) (zc_I D (FB9 b) (fun _ => none) b s.heap) 0 [(0, .ref a0)] [] := by
  have E2 := E
  obtain ⟨C, K, O2, htx, X, ha, hsb, hL⟩ := E2
  refine zg_new C K (CN := RX11) (T := TX11) (N := 6) (ci := 12) [.null, .null, .null, .null, .null, .null] rfl hu_12 tyX11 tyX11_ok cl_L_7 is_X11 in_X11 df_X11 (by decide) dL_0 (n2 := b + 1) rfl ?_
  refine hv_dup C dL_3 rfl ?_
  refine zo_callI [] [.ref b] C K O (g_X11_init l (n := b + 1) (a0 := b) (by omega) zg_at) ci_L_9 (by decide) (by decide) rfl (Nat.le_of_ble_eq_true rfl) dL_4 (fun r9 w9 n9 z => ?_)
  obtain ⟨rfl, z2, z3⟩ := z
  have z2 : w9 = newH ar o.2.1 b := z2
  have z3 : n9 = b + 51 := z3
  subst z2
  subst z3
  refine hv_astore_n C 1 [(1, .ref b), (0, .ref a0)] dL_7 rfl (by decide) rfl ?_
  refine zg_new C K (CN := RX12) (T := TX12) (N := 28) (ci := 13) [.null, .null, .int (iz 0), .int (iz 0), .int (iz 0), .int (iz 0), .int (iz 0), .int (iz 0), .int (iz 0), .int (iz 0), .int (iz 0), .null, .null, .null, .null, .null, .null, .int (iz 0), .int (iz 0), .null, .null, .null, .null, .null, .null, .null, .null, .int (iz 0)] rfl hu_13 tyX12 tyX12_ok cl_L_10 is_X12 in_X12 df_X12 (by decide) dL_8 (n2 := b + 52) rfl ?_
  refine hv_dup C dL_11 rfl ?_
  refine zc_callI [] [.ref (b + 51)] C K (g_X12_init l (n := b + 52) (a0 := b + 51) (by omega) zg_at) ci_L_12 (by decide) (by decide) rfl (Nat.le_of_ble_eq_true rfl) dL_12 (fun r9 w9 n9 z => ?_)
  obtain ⟨rfl, z2, z3⟩ := z
  have z2 : w9 = newM ar (b + 51) (newH ar o.2.1 b) := z2
  have z3 : n9 = b + 68 := z3
  subst z2
  subst z3
  refine hv_astore_n C 2 [(2, .ref (b + 51)), (1, .ref b), (0, .ref a0)] dL_15 rfl (by decide) rfl ?_
  refine hv_iconst C dL_16 ?_
  refine hv_istore_n C 3 [(3, .int (iz 0)), (2, .ref (b + 51)), (1, .ref b), (0, .ref a0)] dL_17 rfl (by decide) rfl ?_
  intro H locs ls h1 h2 h3
  exact lw_loop E hr hlk 512 0 rfl s00 (newH ar o.2.1 b) (b + 68) (lw_ls0 ar he) H locs ls (lw_conv he h1) h2 h3
