/-! taking all of another evening -/
theorem dX2_takeAll_0 : decode cX2_takeAll 0 = .ok (.aload_n 0, 1) := by decide +kernel
theorem dX2_takeAll_1 : decode cX2_takeAll 1 = .ok (.aload_n 1, 1) := by decide +kernel
theorem dX2_takeAll_2 : decode cX2_takeAll 2 = .ok (.getfield 27, 3) := by decide +kernel
theorem dX2_takeAll_5 : decode cX2_takeAll 5 = .ok (.putfield 27, 3) := by decide +kernel
theorem dX2_takeAll_8 : decode cX2_takeAll 8 = .ok (.aload_n 1, 1) := by decide +kernel
theorem dX2_takeAll_9 : decode cX2_takeAll 9 = .ok (.getfield 9, 3) := by decide +kernel
theorem dX2_takeAll_12 : decode cX2_takeAll 12 = .ok (.iconst 0, 1) := by decide +kernel
theorem dX2_takeAll_13 : decode cX2_takeAll 13 = .ok (.aload_n 0, 1) := by decide +kernel
theorem dX2_takeAll_14 : decode cX2_takeAll 14 = .ok (.getfield 9, 3) := by decide +kernel
theorem dX2_takeAll_17 : decode cX2_takeAll 17 = .ok (.iconst 0, 1) := by decide +kernel
theorem dX2_takeAll_18 : decode cX2_takeAll 18 = .ok (.bipush 6, 2) := by decide +kernel
theorem dX2_takeAll_20 : decode cX2_takeAll 20 = .ok (.invokestatic 31, 3) := by decide +kernel
theorem dX2_takeAll_23 : decode cX2_takeAll 23 = .ok (.aload_n 1, 1) := by decide +kernel
theorem dX2_takeAll_24 : decode cX2_takeAll 24 = .ok (.getfield 15, 3) := by decide +kernel
theorem dX2_takeAll_27 : decode cX2_takeAll 27 = .ok (.iconst 0, 1) := by decide +kernel
theorem dX2_takeAll_28 : decode cX2_takeAll 28 = .ok (.aload_n 0, 1) := by decide +kernel
theorem dX2_takeAll_29 : decode cX2_takeAll 29 = .ok (.getfield 15, 3) := by decide +kernel
theorem dX2_takeAll_32 : decode cX2_takeAll 32 = .ok (.iconst 0, 1) := by decide +kernel
theorem dX2_takeAll_33 : decode cX2_takeAll 33 = .ok (.bipush 36, 2) := by decide +kernel
theorem dX2_takeAll_35 : decode cX2_takeAll 35 = .ok (.invokestatic 31, 3) := by decide +kernel
theorem dX2_takeAll_38 : decode cX2_takeAll 38 = .ok (.return_, 1) := by decide +kernel
set_option maxRecDepth 100000 in
set_option maxHeartbeats 4000000 in
theorem g_ev_take (l : Launch) {D : va_G} {ar : Nat → ClassId} {B : Nat → Prop} {n : Nat} {w : zcW} (τ θ : Nat → Nat → Int) {x y : Nat} (hxy : x + 23 ≤ y ∨ y + 23 ≤ x) (hx12 : w (x + 12) = some (.inr (3, [.int (iz (τ 12 0)), .ref (x + 13), .ref (x + 14), .int (iz (τ 12 3)), .ref (x + 15), .ref (x + 16), .ref (x + 17)]))) (hx13 : w (x + 13) = some (.inl (ar 0, 6, .inl (fun q => iz ((τ 13) q))))) (hx14 : w (x + 14) = some (.inl (ar 0, 36, .inl (fun q => iz ((τ 14) q))))) (hy12 : w (y + 12) = some (.inr (3, [.int (iz (θ 12 0)), .ref (y + 13), .ref (y + 14), .int (iz (θ 12 3)), .ref (y + 15), .ref (y + 16), .ref (y + 17)]))) (hy13 : w (y + 13) = some (.inl (ar 0, 6, .inl (fun q => iz ((θ 13) q))))) (hy14 : w (y + 14) = some (.inl (ar 0, 36, .inl (fun q => iz ((θ 14) q))))) : zc_M l D ar B yX2_takeAll cX2_takeAll 2 none 1 40 0 0 [.ref (x + 12), .ref (y + 12)] w n (fun r' w' n' => r' = none ∧ w' = (zc_u (zc_u (zc_u w (x + 12) (.inr (3, [.int (iz (θ 12 0)), .ref (x + 13), .ref (x + 14), .int (iz (τ 12 3)), .ref (x + 15), .ref (x + 16), .ref (x + 17)]))) (x + 13) (.inl (ar 0, 6, .inl (fun q => iz ((cpy9 (θ 13) (τ 13) 6) q))))) (x + 14) (.inl (ar 0, 36, .inl (fun q => iz ((cpy9 (θ 14) (τ 14) 36) q))))) ∧ n' = n) := by
  refine zc_start (own := RX2) (by decide +kernel) rfl (Nat.le_of_ble_eq_true rfl) ?_
  intro p e s m args below meth c C K hr hlk hnam
  refine hv_aload_n C 0 0 dX2_takeAll_0 rfl rfl ?_
  refine hv_aload_n C 1 1 dX2_takeAll_1 rfl rfl ?_
  refine zc_get C K (v := .int (iz (θ 12 0))) 0 rfl hu_3 (by decide) hy12 rfl fl_X2_27 rfl dX2_takeAll_2 ?_
  refine zc_put C K (w2 := (zc_u w (x + 12) (.inr (3, [.int (iz (θ 12 0)), .ref (x + 13), .ref (x + 14), .int (iz (τ 12 3)), .ref (x + 15), .ref (x + 16), .ref (x + 17)])))) 0 rfl hu_3 tyX2 tyX2_ok nmX2 (by decide) hx12 rfl fl_X2_27 rfl rfl (ty := tyX2 0) (by decide +kernel) rfl rfl (Nat.le_of_ble_eq_true rfl) dX2_takeAll_5 ?_
  refine hv_aload_n C 1 1 dX2_takeAll_8 rfl rfl ?_
  refine zc_get C K (v := .ref (y + 13)) 1 rfl hu_3 (by decide) (zg_ne (by omega) hy12) rfl fl_X2_9 rfl dX2_takeAll_9 ?_
  refine hv_iconst C dX2_takeAll_12 ?_
  refine hv_aload_n C 0 0 dX2_takeAll_13 rfl rfl ?_
  refine zc_get C K (v := .ref (x + 13)) 1 rfl hu_3 (by decide) zg_at rfl fl_X2_9 rfl dX2_takeAll_14 ?_
  refine hv_iconst C dX2_takeAll_17 ?_
  refine hv_bipush C dX2_takeAll_18 (by decide) ?_
  refine zc_cpi C K (f := (θ 13)) (g := (τ 13)) (w2 := (zc_u (zc_u w (x + 12) (.inr (3, [.int (iz (θ 12 0)), .ref (x + 13), .ref (x + 14), .int (iz (τ 12 3)), .ref (x + 15), .ref (x + 16), .ref (x + 17)]))) (x + 13) (.inl (ar 0, 6, .inl (fun q => iz ((cpy9 (θ 13) (τ 13) 6) q)))))) 0 6 rfl (zg_ne (by omega) hy13) (zg_ne (by omega) hx13) rfl rfl (by decide) (by decide) (by decide) (fun i z => rfl) rfl ac_X2_31 (by decide) (Nat.le_of_ble_eq_true rfl) dX2_takeAll_20 ?_
  refine hv_aload_n C 1 1 dX2_takeAll_23 rfl rfl ?_
  refine zc_get C K (v := .ref (y + 14)) 2 rfl hu_3 (by decide) (zg_ne (by omega) (zg_ne (by omega) hy12)) rfl fl_X2_15 rfl dX2_takeAll_24 ?_
  refine hv_iconst C dX2_takeAll_27 ?_
  refine hv_aload_n C 0 0 dX2_takeAll_28 rfl rfl ?_
  refine zc_get C K (v := .ref (x + 14)) 2 rfl hu_3 (by decide) (zg_ne (by omega) zg_at) rfl fl_X2_15 rfl dX2_takeAll_29 ?_
  refine hv_iconst C dX2_takeAll_32 ?_
  refine hv_bipush C dX2_takeAll_33 (by decide) ?_
  refine zc_cpi C K (f := (θ 14)) (g := (τ 14)) (w2 := (zc_u (zc_u (zc_u w (x + 12) (.inr (3, [.int (iz (θ 12 0)), .ref (x + 13), .ref (x + 14), .int (iz (τ 12 3)), .ref (x + 15), .ref (x + 16), .ref (x + 17)]))) (x + 13) (.inl (ar 0, 6, .inl (fun q => iz ((cpy9 (θ 13) (τ 13) 6) q))))) (x + 14) (.inl (ar 0, 36, .inl (fun q => iz ((cpy9 (θ 14) (τ 14) 36) q)))))) 0 36 rfl (zg_ne (by omega) (zg_ne (by omega) hy14)) (zg_ne (by omega) (zg_ne (by omega) hx14)) rfl rfl (by decide) (by decide) (by decide) (fun i z => rfl) rfl ac_X2_31 (by decide) (Nat.le_of_ble_eq_true rfl) dX2_takeAll_35 ?_
  skip
  exact zc_vret C hr hlk ⟨rfl, rfl, rfl⟩ dX2_takeAll_38
