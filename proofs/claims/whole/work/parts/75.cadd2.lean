theorem dJx4a65c_add_9ea2d_0 : decode cJx4a65c_add_9ea2d 0 = .ok (.aload_n 0, 1) := by decide +kernel
theorem dJx4a65c_add_9ea2d_1 : decode cJx4a65c_add_9ea2d 1 = .ok (.dup, 1) := by decide +kernel
theorem dJx4a65c_add_9ea2d_2 : decode cJx4a65c_add_9ea2d 2 = .ok (.getfield 63, 3) := by decide +kernel
theorem dJx4a65c_add_9ea2d_5 : decode cJx4a65c_add_9ea2d 5 = .ok (.iconst 1, 1) := by decide +kernel
theorem dJx4a65c_add_9ea2d_6 : decode cJx4a65c_add_9ea2d 6 = .ok (.iadd, 1) := by decide +kernel
theorem dJx4a65c_add_9ea2d_7 : decode cJx4a65c_add_9ea2d 7 = .ok (.putfield 63, 3) := by decide +kernel
theorem dJx4a65c_add_9ea2d_10 : decode cJx4a65c_add_9ea2d 10 = .ok (.aload_n 0, 1) := by decide +kernel
theorem dJx4a65c_add_9ea2d_11 : decode cJx4a65c_add_9ea2d 11 = .ok (.aload_n 1, 1) := by decide +kernel
theorem dJx4a65c_add_9ea2d_12 : decode cJx4a65c_add_9ea2d 12 = .ok (.aload_n 0, 1) := by decide +kernel
theorem dJx4a65c_add_9ea2d_13 : decode cJx4a65c_add_9ea2d 13 = .ok (.getfield 9, 3) := by decide +kernel
theorem dJx4a65c_add_9ea2d_16 : decode cJx4a65c_add_9ea2d 16 = .ok (.aload_n 0, 1) := by decide +kernel
theorem dJx4a65c_add_9ea2d_17 : decode cJx4a65c_add_9ea2d 17 = .ok (.getfield 48, 3) := by decide +kernel
theorem dJx4a65c_add_9ea2d_20 : decode cJx4a65c_add_9ea2d 20 = .ok (.invokevirtual 131, 3) := by decide +kernel
theorem dJx4a65c_add_9ea2d_23 : decode cJx4a65c_add_9ea2d 23 = .ok (.iconst 1, 1) := by decide +kernel
theorem dJx4a65c_add_9ea2d_24 : decode cJx4a65c_add_9ea2d 24 = .ok (.ireturn, 1) := by decide +kernel
theorem fl_Jx4a65c_63 : Cond.fieldLink RJx4a65c 63 "java/util/ArrayList" (TJx4a65c 0).2.1 (TJx4a65c 0).2.2.1 ∈ hk_tb := hk_tq1 58 (by decide +kernel) (by decide +kernel)
theorem ck_Jx4a65c_131 : zcV RJx4a65c RJx4a65c yJx4a65c_add_72be8 cJx4a65c_add_72be8 4 none 131 3 := ⟨hk_tq2 141 (by decide +kernel) (by decide +kernel), hk_tq2 138 (by decide +kernel) (by decide +kernel), hk_tq1 5 (by decide +kernel) (by decide +kernel), ⟨by decide, by decide, by decide +kernel⟩, hk_tq2 140 (by decide +kernel) (by decide +kernel), hk_s 1 (by decide +kernel) (by decide +kernel)⟩
set_option maxRecDepth 100000 in
set_option maxHeartbeats 4000000 in
theorem g_addA (l : Launch) {D : va_G} {ar : Nat → ClassId} {B : Nat → Prop} {n : Nat} {w : zcW} {o : olP} {ee N sz : Nat} {g : Nat → Option Nat} (he : ee < n) (hwe : w ee = some (.inl (ar 2, N, .inr (.inr (.inr (.inr g)))))) (hsz : sz < N ∧ N ≤ 60) {q : Nat} (hq : q < n) (mc : Int) (hwq : w q = some (.inr (0, [.int (iz mc), .ref ee, .int (iz ((sz : Nat) : Int))]))) {x xci : Nat} {xvs : List Value} {xr : vw_C} (hx : x < n) (hxw : w x = some (.inr (xci, xvs))) (hxc : vwCl[xci]? = some xr) (hxk : (xr.1, "java/lang/Object") ∈ nwC ∨ xr.1 = "java/lang/Object") (hxq : x ≠ q) (hxe : x ≠ ee) (hqe : q ≠ ee) : zo_M l D ar B o yJx4a65c_add_9ea2d cJx4a65c_add_9ea2d 2 (some .boolean) 6 240 1 60 [.ref q, .ref x] w n (fun r' w' n' => r' = some (.int (iz 1)) ∧ ∃ (e9 N9 : Nat) (f9 : Nat → Option Nat) (m9 : Int), w' q = some (.inr (0, [.int (iz m9), .ref e9, .int (iz (((sz : Nat) : Int) + 1))])) ∧ w' e9 = some (.inl (ar 2, N9, .inr (.inr (.inr (.inr f9))))) ∧ sz < N9 ∧ N9 ≤ 60 ∧ f9 sz = some x ∧ (∀ i, i < sz → f9 i = g i) ∧ ((e9 = ee ∧ n' = n ∧ ee < n) ∨ (e9 = n ∧ n' = n + 1)) ∧ ∀ a, a ≠ q → a ≠ e9 → w' a = w a) := by
  refine zo_start (own := RJx4a65c) (by decide +kernel) rfl (Nat.le_of_ble_eq_true rfl) ?_
  intro p e s m args below meth c C K O hz hr hlk hnam
  refine hv_aload_n C 0 0 dJx4a65c_add_9ea2d_0 rfl rfl ?_
  refine hv_dup C dJx4a65c_add_9ea2d_1 rfl ?_
  refine zc_getM C K hwq rfl fl_Jx4a65c_63 dJx4a65c_add_9ea2d_2 ?_
  refine hv_iconst C dJx4a65c_add_9ea2d_5 ?_
  refine hv_iadd C dJx4a65c_add_9ea2d_6 ?_
  refine zc_putM C K (w2 := (zc_u w q (.inr (0, [.int (iz (mc + 1)), .ref ee, .int (iz ((sz : Nat) : Int))])))) hwq rfl fl_Jx4a65c_63 (Nat.le_of_ble_eq_true rfl) dJx4a65c_add_9ea2d_7 ?_
  refine hv_aload_n C 0 0 dJx4a65c_add_9ea2d_10 rfl rfl ?_
  refine hv_aload_n C 1 1 dJx4a65c_add_9ea2d_11 rfl rfl ?_
  refine hv_aload_n C 0 0 dJx4a65c_add_9ea2d_12 rfl rfl ?_
  refine zc_get C K (v := .ref ee) 1 rfl hu_0 (by decide) zg_at rfl fl_Jx4a65c_9 rfl dJx4a65c_add_9ea2d_13 ?_
  refine hv_aload_n C 0 0 dJx4a65c_add_9ea2d_16 rfl rfl ?_
  refine zc_get C K (v := .int (iz ((sz : Nat) : Int))) 2 rfl hu_0 (by decide) zg_at rfl fl_Jx4a65c_48 rfl dJx4a65c_add_9ea2d_17 ?_
  refine zgo_callV [.ref x, .ref ee, .int (iz ((sz : Nat) : Int))] [] C K O zg_at rfl (g_addhA l he (zg_ne (fun h => hqe h.symm) hwe) (by omega) hq (mc + 1) zg_at hx (zg_ne hxq hxw) hxc hxk hxq hxe hqe) ck_Jx4a65c_131 ⟨by dsimp only; omega, by dsimp only; omega⟩ ⟨by dsimp only; omega, by dsimp only; omega⟩ rfl (Nat.le_of_ble_eq_true rfl) dJx4a65c_add_9ea2d_20 (r := none) (w2 := (zc_u (zc_u w q (.inr (0, [.int (iz (mc + 1)), .ref ee, .int (iz (((sz : Nat) : Int) + 1))]))) ee (.inl (ar 2, N, .inr (.inr (.inr (.inr (fun q => if q = sz then some x else g q)))))))) (n2 := n) (fun r' w' n' h => ⟨h.1, h.2.1.trans (by rw [zg_uc (a := ee) (b := q) (by omega), zg_uu] <;> rfl), h.2.2⟩) ?_
  refine hv_iconst C dJx4a65c_add_9ea2d_23 ?_
  skip
  exact zc_zret C hr hlk (v := true) rfl ⟨rfl, ee, N, (fun q => if q = sz then some x else g q), _, (zg_ne (by omega) zg_at), zg_at, by omega, by omega, if_pos rfl, fun i z => if_neg (by omega), Or.inl ⟨rfl, rfl, he⟩, fun a h1 h2 => by simp only [zc_u, if_neg h1, if_neg h2]⟩ dJx4a65c_add_9ea2d_24
set_option maxRecDepth 100000 in
set_option maxHeartbeats 4000000 in
theorem g_addB (l : Launch) {D : va_G} {ar : Nat → ClassId} {B : Nat → Prop} {n : Nat} {w : zcW} {o : olP} {q : Nat} (hq : q < n) (mc : Int) (hwq : w q = some (.inr (0, [.int (iz mc), .ref o.2.1, .int (iz ((0 : Nat) : Int))]))) {x xci : Nat} {xvs : List Value} {xr : vw_C} (hx : x < n) (hxw : w x = some (.inr (xci, xvs))) (hxc : vwCl[xci]? = some xr) (hxk : (xr.1, "java/lang/Object") ∈ nwC ∨ xr.1 = "java/lang/Object") (hxq : x ≠ q) (G9 : Nat → Option Nat) : zo_M l D ar B o yJx4a65c_add_9ea2d cJx4a65c_add_9ea2d 2 (some .boolean) 6 240 1 60 [.ref q, .ref x] w n (fun r' w' n' => r' = some (.int (iz 1)) ∧ ∃ (e9 N9 : Nat) (f9 : Nat → Option Nat) (m9 : Int), w' q = some (.inr (0, [.int (iz m9), .ref e9, .int (iz (((0 : Nat) : Int) + 1))])) ∧ w' e9 = some (.inl (ar 2, N9, .inr (.inr (.inr (.inr f9))))) ∧ 0 < N9 ∧ N9 ≤ 60 ∧ f9 0 = some x ∧ (∀ i, i < 0 → f9 i = G9 i) ∧ ((e9 = o.2.1 ∧ n' = n ∧ o.2.1 < n) ∨ (e9 = n ∧ n' = n + 1)) ∧ ∀ a, a ≠ q → a ≠ e9 → w' a = w a) := by
  refine zo_start (own := RJx4a65c) (by decide +kernel) rfl (Nat.le_of_ble_eq_true rfl) ?_
  intro p e s m args below meth c C K O hz hr hlk hnam
  refine hv_aload_n C 0 0 dJx4a65c_add_9ea2d_0 rfl rfl ?_
  refine hv_dup C dJx4a65c_add_9ea2d_1 rfl ?_
  refine zc_getM C K hwq rfl fl_Jx4a65c_63 dJx4a65c_add_9ea2d_2 ?_
  refine hv_iconst C dJx4a65c_add_9ea2d_5 ?_
  refine hv_iadd C dJx4a65c_add_9ea2d_6 ?_
  refine zc_putM C K (w2 := (zc_u w q (.inr (0, [.int (iz (mc + 1)), .ref o.2.1, .int (iz ((0 : Nat) : Int))])))) hwq rfl fl_Jx4a65c_63 (Nat.le_of_ble_eq_true rfl) dJx4a65c_add_9ea2d_7 ?_
  refine hv_aload_n C 0 0 dJx4a65c_add_9ea2d_10 rfl rfl ?_
  refine hv_aload_n C 1 1 dJx4a65c_add_9ea2d_11 rfl rfl ?_
  refine hv_aload_n C 0 0 dJx4a65c_add_9ea2d_12 rfl rfl ?_
  refine zc_get C K (v := .ref o.2.1) 1 rfl hu_0 (by decide) zg_at rfl fl_Jx4a65c_9 rfl dJx4a65c_add_9ea2d_13 ?_
  refine hv_aload_n C 0 0 dJx4a65c_add_9ea2d_16 rfl rfl ?_
  refine zc_get C K (v := .int (iz ((0 : Nat) : Int))) 2 rfl hu_0 (by decide) zg_at rfl fl_Jx4a65c_48 rfl dJx4a65c_add_9ea2d_17 ?_
  refine zgo_callV [.ref x, .ref o.2.1, .int (iz ((0 : Nat) : Int))] [] C K O zg_at rfl (g_addhB l hq (mc + 1) zg_at hx (zg_ne hxq hxw) hxc hxk hxq) ck_Jx4a65c_131 ⟨by dsimp only; omega, by dsimp only; omega⟩ ⟨by dsimp only; omega, by dsimp only; omega⟩ rfl (Nat.le_of_ble_eq_true rfl) dJx4a65c_add_9ea2d_20 (r := none) (w2 := (zc_u (zc_u w q (.inr (0, [.int (iz (mc + 1)), .ref n, .int (iz (((0 : Nat) : Int) + 1))]))) n (.inl (ar 2, 10, .inr (.inr (.inr (.inr (fun q => if q = 0 then some x else (fun _ => none) q)))))))) (n2 := n + 1) (fun r' w' n' h => ⟨h.1, h.2.1.trans (by rw [zg_uc (a := n) (b := q) (by omega), zg_uu] <;> rfl), h.2.2⟩) ?_
  refine hv_iconst C dJx4a65c_add_9ea2d_23 ?_
  skip
  exact zc_zret C hr hlk (v := true) rfl ⟨rfl, n, 10, (fun q => if q = 0 then some x else (fun _ => none) q), _, (zg_ne (by omega) zg_at), zg_at, by omega, by omega, if_pos rfl, fun i z => absurd z (Nat.not_lt_zero _), Or.inr ⟨rfl, rfl⟩, fun a h1 h2 => by simp only [zc_u, if_neg h1, if_neg h2]⟩ dJx4a65c_add_9ea2d_24
set_option maxRecDepth 100000 in
set_option maxHeartbeats 4000000 in
theorem g_addC (l : Launch) {D : va_G} {ar : Nat → ClassId} {B : Nat → Prop} {n : Nat} {w : zcW} {o : olP} {ee N : Nat} {g : Nat → Option Nat} (he : ee < n) (hwe : w ee = some (.inl (ar 2, N, .inr (.inr (.inr (.inr g)))))) (hel : ∀ i, i < N → ∀ y, g i = some y → okE w y) (hwn : w n = none) {q : Nat} (hq : q < n) (hnq : ∀ i, i < N → ∀ y, g i = some y → y ≠ q) (mc : Int) (hwq : w q = some (.inr (0, [.int (iz mc), .ref ee, .int (iz ((N : Nat) : Int))]))) (hne : ee ≠ o.2.1) (hqe : q ≠ ee) (NL : Nat) (hNL : (NL : Int) = (N : Int) + (if 1 < (N : Int) / 2 ^ 1 then (N : Int) / 2 ^ 1 else 1)) (hN : 0 < N ∧ N ≤ 39) {x xci : Nat} {xvs : List Value} {xr : vw_C} (hx : x < n) (hxw : w x = some (.inr (xci, xvs))) (hxc : vwCl[xci]? = some xr) (hxk : (xr.1, "java/lang/Object") ∈ nwC ∨ xr.1 = "java/lang/Object") (hxq : x ≠ q) (hxe : x ≠ ee) : zo_M l D ar B o yJx4a65c_add_9ea2d cJx4a65c_add_9ea2d 2 (some .boolean) 6 240 1 60 [.ref q, .ref x] w n (fun r' w' n' => r' = some (.int (iz 1)) ∧ ∃ (e9 N9 : Nat) (f9 : Nat → Option Nat) (m9 : Int), w' q = some (.inr (0, [.int (iz m9), .ref e9, .int (iz (((N : Nat) : Int) + 1))])) ∧ w' e9 = some (.inl (ar 2, N9, .inr (.inr (.inr (.inr f9))))) ∧ N < N9 ∧ N9 ≤ 60 ∧ f9 N = some x ∧ (∀ i, i < N → f9 i = g i) ∧ ((e9 = ee ∧ n' = n ∧ ee < n) ∨ (e9 = n ∧ n' = n + 1)) ∧ ∀ a, a ≠ q → a ≠ e9 → w' a = w a) := by
  refine zo_start (own := RJx4a65c) (by decide +kernel) rfl (Nat.le_of_ble_eq_true rfl) ?_
  intro p e s m args below meth c C K O hz hr hlk hnam
  have hNL3 : N < NL ∧ NL ≤ 60 := by have z : (NL : Int) ≤ 60 ∧ (N : Int) < NL := (by rw [hNL]; split <;> omega); omega
  refine hv_aload_n C 0 0 dJx4a65c_add_9ea2d_0 rfl rfl ?_
  refine hv_dup C dJx4a65c_add_9ea2d_1 rfl ?_
  refine zc_getM C K hwq rfl fl_Jx4a65c_63 dJx4a65c_add_9ea2d_2 ?_
  refine hv_iconst C dJx4a65c_add_9ea2d_5 ?_
  refine hv_iadd C dJx4a65c_add_9ea2d_6 ?_
  refine zc_putM C K (w2 := (zc_u w q (.inr (0, [.int (iz (mc + 1)), .ref ee, .int (iz ((N : Nat) : Int))])))) hwq rfl fl_Jx4a65c_63 (Nat.le_of_ble_eq_true rfl) dJx4a65c_add_9ea2d_7 ?_
  refine hv_aload_n C 0 0 dJx4a65c_add_9ea2d_10 rfl rfl ?_
  refine hv_aload_n C 1 1 dJx4a65c_add_9ea2d_11 rfl rfl ?_
  refine hv_aload_n C 0 0 dJx4a65c_add_9ea2d_12 rfl rfl ?_
  refine zc_get C K (v := .ref ee) 1 rfl hu_0 (by decide) zg_at rfl fl_Jx4a65c_9 rfl dJx4a65c_add_9ea2d_13 ?_
  refine hv_aload_n C 0 0 dJx4a65c_add_9ea2d_16 rfl rfl ?_
  refine zc_get C K (v := .int (iz ((N : Nat) : Int))) 2 rfl hu_0 (by decide) zg_at rfl fl_Jx4a65c_48 rfl dJx4a65c_add_9ea2d_17 ?_
  refine zgo_callV [.ref x, .ref ee, .int (iz ((N : Nat) : Int))] [] C K O zg_at rfl (g_addhC l he (zg_ne (fun h => hqe h.symm) hwe) (fun i z y h => okE_u (hel i z y h) (hnq i z y h)) (by rw [show zc_u w q _ n = w n from if_neg (by omega)]; exact hwn) hq (mc + 1) zg_at hne hqe NL hNL hN hx (zg_ne hxq hxw) hxc hxk hxq hxe) ck_Jx4a65c_131 ⟨by dsimp only; omega, by dsimp only; omega⟩ ⟨by dsimp only; omega, by dsimp only; omega⟩ rfl (Nat.le_of_ble_eq_true rfl) dJx4a65c_add_9ea2d_20 (r := none) (w2 := (zc_u (zc_u w q (.inr (0, [.int (iz (mc + 1)), .ref n, .int (iz (((N : Nat) : Int) + 1))]))) n (.inl (ar 2, NL, .inr (.inr (.inr (.inr (fun q => if q = N then some x else (fun q => if q < N then g q else (fun _ => none) q) q)))))))) (n2 := n + 1) (fun r' w' n' h => ⟨h.1, h.2.1.trans (by rw [zg_uc (a := n) (b := q) (by omega), zg_uu] <;> rfl), h.2.2⟩) ?_
  refine hv_iconst C dJx4a65c_add_9ea2d_23 ?_
  skip
  exact zc_zret C hr hlk (v := true) rfl ⟨rfl, n, NL, (fun q => if q = N then some x else (fun q => if q < N then g q else (fun _ => none) q) q), _, (zg_ne (by omega) zg_at), zg_at, by omega, by omega, if_pos rfl, fun i z => (if_neg (by omega)).trans (if_pos z), Or.inr ⟨rfl, rfl⟩, fun a h1 h2 => by simp only [zc_u, if_neg h1, if_neg h2]⟩ dJx4a65c_add_9ea2d_24
/-- what a list holds, as far as adding needs it -/
def lsB (ar : Nat → ClassId) (w : zcW) (n e0 q e sz : Nat) (g : Nat → Option Nat) : Prop := (e = e0 ∧ sz = 0) ∨ (e < n ∧ q ≠ e ∧ e ≠ e0 ∧ ∃ N : Nat, w e = some (.inl (ar 2, N, .inr (.inr (.inr (.inr g))))) ∧ sz ≤ N ∧ 0 < N ∧ N ≤ 60 ∧ ∀ i, i < sz → ∀ y, g i = some y → okE w y ∧ y ≠ q)
theorem g_add (l : Launch) {D : va_G} {ar : Nat → ClassId} {B : Nat → Prop} {n : Nat} {w : zcW} {o : olP} {q ee sz : Nat} {g : Nat → Option Nat} (hq : q < n) (mc : Int) (hwq : w q = some (.inr (0, [.int (iz mc), .ref ee, .int (iz ((sz : Nat) : Int))]))) (hL : lsB ar w n o.2.1 q ee sz g) (hs : sz ≤ 39) (hwn : w n = none) {x xci : Nat} {xvs : List Value} {xr : vw_C} (hx : x < n) (hxw : w x = some (.inr (xci, xvs))) (hxc : vwCl[xci]? = some xr) (hxk : (xr.1, "java/lang/Object") ∈ nwC ∨ xr.1 = "java/lang/Object") (hxq : x ≠ q) (hxe : x ≠ ee) : zo_M l D ar B o yJx4a65c_add_9ea2d cJx4a65c_add_9ea2d 2 (some .boolean) 6 240 1 60 [.ref q, .ref x] w n (fun r' w' n' => r' = some (.int (iz 1)) ∧ ∃ (e9 N9 : Nat) (f9 : Nat → Option Nat) (m9 : Int), w' q = some (.inr (0, [.int (iz m9), .ref e9, .int (iz (((sz : Nat) : Int) + 1))])) ∧ w' e9 = some (.inl (ar 2, N9, .inr (.inr (.inr (.inr f9))))) ∧ sz < N9 ∧ N9 ≤ 60 ∧ f9 sz = some x ∧ (∀ i, i < sz → f9 i = g i) ∧ ((e9 = ee ∧ n' = n ∧ ee < n) ∨ (e9 = n ∧ n' = n + 1)) ∧ ∀ a, a ≠ q → a ≠ e9 → w' a = w a) := by
  rcases hL with ⟨h1, h2⟩ | ⟨he, hqe, hne, N, h3, h4, h5, h6, h7⟩
  · subst h1; subst h2
    exact g_addB l hq mc hwq hx hxw hxc hxk hxq g
  · by_cases c : sz < N
    · exact g_addA l he h3 ⟨c, h6⟩ hq mc hwq hx hxw hxc hxk hxq hxe hqe
    · have e : sz = N := by omega
      subst e
      obtain ⟨NL, hNL⟩ : ∃ NL : Nat, (NL : Int) = (sz : Int) + (if 1 < (sz : Int) / 2 ^ 1 then (sz : Int) / 2 ^ 1 else 1) := ⟨((sz : Int) + (if 1 < (sz : Int) / 2 ^ 1 then (sz : Int) / 2 ^ 1 else 1)).toNat, by split <;> omega⟩
      exact g_addC l he h3 (fun i z y h => (h7 i z y h).1) hwn hq (fun i z y h => (h7 i z y h).2) mc hwq hne hqe NL hNL ⟨h5, hs⟩ hx hxw hxc hxk hxq hxe
