/-! taking all of another evening -/
theorem dX2_takeAll_0 : decode cX2_takeAll 0 = .ok (.aload_n 0, 1) := by decide +kernel
theorem dX2_takeAll_1 : decode cX2_takeAll 1 = .ok (.aload_n 1, 1) := by decide +kernel
theorem dX2_takeAll_2 : decode cX2_takeAll 2 = .ok (.getfield 27, 3) := by decide +kernel
theorem dX2_takeAll_5 : decode cX2_takeAll 5 = .ok (.putfield 27, 3) := by decide +kernel
theorem dX2_takeAll_8 : decode cX2_takeAll 8 = .ok (.aload_n 1, 1) := by decide +kernel
theorem dX2_takeAll_9 : decode cX2_takeAll 9 = .ok (.getfield 9, 3) := by decide +kernel
theorem dX2_takeAll_12 : decode cX2_takeAll 12 = .ok (.iconst 0, 1) := by decide +kernel
theorem dX2_takeAll_13 : decode cX2_takeAll 13 = .ok (.aload_n 0, 1) := by decide +kernel
theorem dX2_takeAll_14 : decode cX2_takeAll 14 = .ok (.getfield 9, 3) := by decide +kernel
theorem dX2_takeAll_17 : decode cX2_takeAll 17 = .ok (.iconst 0, 1) := by decide +kernel
theorem dX2_takeAll_18 : decode cX2_takeAll 18 = .ok (.bipush 6, 2) := by decide +kernel
theorem dX2_takeAll_20 : decode cX2_takeAll 20 = .ok (.invokestatic 31, 3) := by decide +kernel
theorem dX2_takeAll_23 : decode cX2_takeAll 23 = .ok (.aload_n 1, 1) := by decide +kernel
theorem dX2_takeAll_24 : decode cX2_takeAll 24 = .ok (.getfield 15, 3) := by decide +kernel
theorem dX2_takeAll_27 : decode cX2_takeAll 27 = .ok (.iconst 0, 1) := by decide +kernel
theorem dX2_takeAll_28 : decode cX2_takeAll 28 = .ok (.aload_n 0, 1) := by decide +kernel
theorem dX2_takeAll_29 : decode cX2_takeAll 29 = .ok (.getfield 15, 3) := by decide +kernel
theorem dX2_takeAll_32 : decode cX2_takeAll 32 = .ok (.iconst 0, 1) := by decide +kernel
theorem dX2_takeAll_33 : decode cX2_takeAll 33 = .ok (.bipush 36, 2) := by decide +kernel
theorem dX2_takeAll_35 : decode cX2_takeAll 35 = .ok (.invokestatic 31, 3) := by decide +kernel
theorem dX2_takeAll_38 : decode cX2_takeAll 38 = .ok (.return_, 1) := by decide +kernel
set_option maxRecDepth 100000 in
set_option maxHeartbeats 4000000 in
theorem g_ev_take (l : Launch) {D : va_G} {ar : Nat → ClassId} {B : Nat → Prop} {n : Nat} {w : zcW} (τ θ : Nat → Nat → Int) {x y : Nat} (hxy : x + 23 ≤ y ∨ y + 23 ≤ x) (hx12 : w (x + 12) = some (.inr (3, [.int (iz (τ 12 0)), .ref (x + 13), .ref (x + 14), .int (iz (τ 12 3)), .ref (x + 15), .ref (x + 16), .ref (x + 17)]))) (hx13 : w (x + 13) = some (.inl (ar 0, 6, .inl (fun q => iz ((τ 13) q))))) (hx14 : w (x + 14) = some (.inl (ar 0, 36, .inl (fun q => iz ((τ 14) q))))) (hy12 : w (y + 12) = some (.inr (3, [.int (iz (θ 12 0)), .ref (y + 13), .ref (y + 14), .int (iz (θ 12 3)), .ref (y + 15), .ref (y + 16), .ref (y + 17)]))) (hy13 : w (y + 13) = some (.inl (ar 0, 6, .inl (fun q => iz ((θ 13) q))))) (hy14 : w (y + 14) = some (.inl (ar 0, 36, .inl (fun q => iz ((θ 14) q))))) : zc_M l D ar B yX2_takeAll cX2_takeAll 2 none 1 40 0 0 [.ref (x + 12), .ref (y + 12)] w n (fun r' w' n' => r' = none ∧ w' = (zc_u (zc_u (zc_u w (x + 12) (.inr (3, [.int (iz (θ 12 0)), .ref (x + 13), .ref (x + 14), .int (iz (τ 12 3)), .ref (x + 15), .ref (x + 16), .ref (x + 17)]))) (x + 13) (.inl (ar 0, 6, .inl (fun q => iz ((cpy9 (θ 13) (τ 13) 6) q))))) (x + 14) (.inl (ar 0, 36, .inl (fun q => iz ((cpy9 (θ 14) (τ 14) 36) q))))) ∧ n' = n) := by
  refine zc_start (own := RX2) (by decide +kernel) rfl (Nat.le_of_ble_eq_true rfl) ?_
  intro p e s m args below meth c C K hr hlk hnam
  refine hv_aload_n C 0 0 dX2_takeAll_0 rfl rfl ?_
  refine hv_aload_n C 1 1 dX2_takeAll_1 rfl rfl ?_
  refine zc_get C K (v := .int (iz (θ 12 0))) 0 rfl hu_3 (by decide) hy12 rfl fl_X2_27 rfl dX2_takeAll_2 ?_
  refine zc_put C K (w2 := (zc_u w (x + 12) (.inr (3, [.int (iz (θ 12 0)), .ref (x + 13), .ref (x + 14), .int (iz (τ 12 3)), .ref (x + 15), .ref (x + 16), .ref (x + 17)])))) 0 rfl hu_3 tyX2 tyX2_ok nmX2 (by decide) hx12 rfl fl_X2_27 rfl rfl (ty := tyX2 0) (by decide +kernel) rfl rfl (Nat.le_of_ble_eq_true rfl) dX2_takeAll_5 ?_
  refine hv_aload_n C 1 1 dX2_takeAll_8 rfl rfl ?_
  refine zc_get C K (v := .ref (y + 13)) 1 rfl hu_3 (by decide) (zg_ne (by omega) hy12) rfl fl_X2_9 rfl dX2_takeAll_9 ?_
  refine hv_iconst C dX2_takeAll_12 ?_
  refine hv_aload_n C 0 0 dX2_takeAll_13 rfl rfl ?_
  refine zc_get C K (v := .ref (x + 13)) 1 rfl hu_3 (by decide) zg_at rfl fl_X2_9 rfl dX2_takeAll_14 ?_
  refine hv_iconst C dX2_takeAll_17 ?_
  refine hv_bipush C dX2_takeAll_18 (by decide) ?_
  refine zc_cpi C K (f := (θ 13)) (g := (τ 13)) (w2 := (zc_u (zc_u w (x + 12) (.inr (3, [.int (iz (θ 12 0)), .ref (x + 13), .ref (x + 14), .int (iz (τ 12 3)), .ref (x + 15), .ref (x + 16), .ref (x + 17)]))) (x + 13) (.inl (ar 0, 6, .inl (fun q => iz ((cpy9 (θ 13) (τ 13) 6) q)))))) 0 6 rfl (zg_ne (by omega) hy13) (zg_ne (by omega) hx13) rfl rfl (by decide) (by decide) (by decide) (fun i z => rfl) rfl ac_X2_31 (by decide) (Nat.le_of_ble_eq_true rfl) dX2_takeAll_20 ?_
  refine hv_aload_n C 1 1 dX2_takeAll_23 rfl rfl ?_
  refine zc_get C K (v := .ref (y + 14)) 2 rfl hu_3 (by decide) (zg_ne (by omega) (zg_ne (by omega) hy12)) rfl fl_X2_15 rfl dX2_takeAll_24 ?_
  refine hv_iconst C dX2_takeAll_27 ?_
  refine hv_aload_n C 0 0 dX2_takeAll_28 rfl rfl ?_
  refine zc_get C K (v := .ref (x + 14)) 2 rfl hu_3 (by decide) (zg_ne (by omega) zg_at) rfl fl_X2_15 rfl dX2_takeAll_29 ?_
  refine hv_iconst C dX2_takeAll_32 ?_
  refine hv_bipush C dX2_takeAll_33 (by decide) ?_
  refine zc_cpi C K (f := (θ 14)) (g := (τ 14)) (w2 := (zc_u (zc_u (zc_u w (x + 12) (.inr (3, [.int (iz (θ 12 0)), .ref (x + 13), .ref (x + 14), .int (iz (τ 12 3)), .ref (x + 15), .ref (x + 16), .ref (x + 17)]))) (x + 13) (.inl (ar 0, 6, .inl (fun q => iz ((cpy9 (θ 13) (τ 13) 6) q))))) (x + 14) (.inl (ar 0, 36, .inl (fun q => iz ((cpy9 (θ 14) (τ 14) 36) q)))))) 0 36 rfl (zg_ne (by omega) (zg_ne (by omega) hy14)) (zg_ne (by omega) (zg_ne (by omega) hx14)) rfl rfl (by decide) (by decide) (by decide) (fun i z => rfl) rfl ac_X2_31 (by decide) (Nat.le_of_ble_eq_true rfl) dX2_takeAll_35 ?_
  skip
  exact zc_vret C hr hlk ⟨rfl, rfl, rfl⟩ dX2_takeAll_38
theorem dX8_takeRows_0 : decode cX8_takeRows 0 = .ok (.aload_n 1, 1) := by decide +kernel
theorem dX8_takeRows_1 : decode cX8_takeRows 1 = .ok (.getfield 21, 3) := by decide +kernel
theorem dX8_takeRows_4 : decode cX8_takeRows 4 = .ok (.iconst 0, 1) := by decide +kernel
theorem dX8_takeRows_5 : decode cX8_takeRows 5 = .ok (.aload_n 0, 1) := by decide +kernel
theorem dX8_takeRows_6 : decode cX8_takeRows 6 = .ok (.getfield 21, 3) := by decide +kernel
theorem dX8_takeRows_9 : decode cX8_takeRows 9 = .ok (.iconst 0, 1) := by decide +kernel
theorem dX8_takeRows_10 : decode cX8_takeRows 10 = .ok (.bipush 8, 2) := by decide +kernel
theorem dX8_takeRows_12 : decode cX8_takeRows 12 = .ok (.invokestatic 122, 3) := by decide +kernel
theorem dX8_takeRows_15 : decode cX8_takeRows 15 = .ok (.aload_n 1, 1) := by decide +kernel
theorem dX8_takeRows_16 : decode cX8_takeRows 16 = .ok (.getfield 25, 3) := by decide +kernel
theorem dX8_takeRows_19 : decode cX8_takeRows 19 = .ok (.iconst 0, 1) := by decide +kernel
theorem dX8_takeRows_20 : decode cX8_takeRows 20 = .ok (.aload_n 0, 1) := by decide +kernel
theorem dX8_takeRows_21 : decode cX8_takeRows 21 = .ok (.getfield 25, 3) := by decide +kernel
theorem dX8_takeRows_24 : decode cX8_takeRows 24 = .ok (.iconst 0, 1) := by decide +kernel
theorem dX8_takeRows_25 : decode cX8_takeRows 25 = .ok (.bipush 8, 2) := by decide +kernel
theorem dX8_takeRows_27 : decode cX8_takeRows 27 = .ok (.invokestatic 122, 3) := by decide +kernel
theorem dX8_takeRows_30 : decode cX8_takeRows 30 = .ok (.aload_n 1, 1) := by decide +kernel
theorem dX8_takeRows_31 : decode cX8_takeRows 31 = .ok (.getfield 44, 3) := by decide +kernel
theorem dX8_takeRows_34 : decode cX8_takeRows 34 = .ok (.iconst 0, 1) := by decide +kernel
theorem dX8_takeRows_35 : decode cX8_takeRows 35 = .ok (.aload_n 0, 1) := by decide +kernel
theorem dX8_takeRows_36 : decode cX8_takeRows 36 = .ok (.getfield 44, 3) := by decide +kernel
theorem dX8_takeRows_39 : decode cX8_takeRows 39 = .ok (.iconst 0, 1) := by decide +kernel
theorem dX8_takeRows_40 : decode cX8_takeRows 40 = .ok (.sipush 500, 3) := by decide +kernel
theorem dX8_takeRows_43 : decode cX8_takeRows 43 = .ok (.invokestatic 122, 3) := by decide +kernel
theorem dX8_takeRows_46 : decode cX8_takeRows 46 = .ok (.aload_n 1, 1) := by decide +kernel
theorem dX8_takeRows_47 : decode cX8_takeRows 47 = .ok (.getfield 57, 3) := by decide +kernel
theorem dX8_takeRows_50 : decode cX8_takeRows 50 = .ok (.iconst 0, 1) := by decide +kernel
theorem dX8_takeRows_51 : decode cX8_takeRows 51 = .ok (.aload_n 0, 1) := by decide +kernel
theorem dX8_takeRows_52 : decode cX8_takeRows 52 = .ok (.getfield 57, 3) := by decide +kernel
theorem dX8_takeRows_55 : decode cX8_takeRows 55 = .ok (.iconst 0, 1) := by decide +kernel
theorem dX8_takeRows_56 : decode cX8_takeRows 56 = .ok (.bipush 120, 2) := by decide +kernel
theorem dX8_takeRows_58 : decode cX8_takeRows 58 = .ok (.invokestatic 122, 3) := by decide +kernel
theorem dX8_takeRows_61 : decode cX8_takeRows 61 = .ok (.iconst 0, 1) := by decide +kernel
theorem dX8_takeRows_62 : decode cX8_takeRows 62 = .ok (.istore_n 2, 1) := by decide +kernel
theorem dX8_takeRows_63 : decode cX8_takeRows 63 = .ok (.iload_n 2, 1) := by decide +kernel
theorem dX8_takeRows_64 : decode cX8_takeRows 64 = .ok (.iconst 3, 1) := by decide +kernel
theorem dX8_takeRows_65 : decode cX8_takeRows 65 = .ok (.if_icmp .ge 21, 3) := by decide +kernel
theorem dX8_takeRows_68 : decode cX8_takeRows 68 = .ok (.aload_n 0, 1) := by decide +kernel
theorem dX8_takeRows_69 : decode cX8_takeRows 69 = .ok (.getfield 53, 3) := by decide +kernel
theorem dX8_takeRows_72 : decode cX8_takeRows 72 = .ok (.iload_n 2, 1) := by decide +kernel
theorem dX8_takeRows_73 : decode cX8_takeRows 73 = .ok (.aload_n 1, 1) := by decide +kernel
theorem dX8_takeRows_74 : decode cX8_takeRows 74 = .ok (.getfield 53, 3) := by decide +kernel
theorem dX8_takeRows_77 : decode cX8_takeRows 77 = .ok (.iload_n 2, 1) := by decide +kernel
theorem dX8_takeRows_78 : decode cX8_takeRows 78 = .ok (.aaload, 1) := by decide +kernel
theorem dX8_takeRows_79 : decode cX8_takeRows 79 = .ok (.aastore, 1) := by decide +kernel
theorem dX8_takeRows_80 : decode cX8_takeRows 80 = .ok (.iinc 2 1, 3) := by decide +kernel
theorem dX8_takeRows_83 : decode cX8_takeRows 83 = .ok (.goto (-20), 3) := by decide +kernel
theorem dX8_takeRows_86 : decode cX8_takeRows 86 = .ok (.return_, 1) := by decide +kernel
theorem ac_X8_122 : Cond.methodLink RX8 122 arraycopyName ∈ hk_tb := hk_tq5 112 (by decide +kernel) (by decide +kernel)
set_option maxRecDepth 100000 in
set_option maxHeartbeats 4000000 in
theorem g_told_rows (l : Launch) {D : va_G} {ar : Nat → ClassId} {B : Nat → Prop} {n : Nat} {w : zcW} (τ θ : Nat → Nat → Int) {x y p0 p1 p2 : Nat} {v0 v1 v2 : List Value} (hxy : x + 23 ≤ y ∨ y + 23 ≤ x) (hx1 : w (x + 1) = some (.inr (9, [.int (iz (τ 1 0)), .ref (x + 2), .ref (x + 3), .ref (x + 4), .ref (x + 5), .ref (x + 6), .ref (x + 7), .ref (x + 8), .int (iz (τ 1 8)), .int (iz (τ 1 9)), .int (iz (τ 1 10)), .ref (x + 9), .int (iz (τ 1 12)), .int (iz (τ 1 13)), .int (iz (τ 1 14)), .ref (x + 10), .int (iz (τ 1 16)), .ref (x + 11), .ref (x + 12), .ref (x + 18)]))) (hx4 : w (x + 4) = some (.inl (ar 0, 8, .inl (fun q => iz ((τ 4) q))))) (hx5 : w (x + 5) = some (.inl (ar 0, 8, .inl (fun q => iz ((τ 5) q))))) (hx9 : w (x + 9) = some (.inl (ar 1, 500, .inl (fun q => iz ((τ 9) q))))) (hx10 : w (x + 10) = some (.inl (ar 3, 3, .inr (.inr (.inr (.inr (fun q => rfv (τ 10 q)))))))) (hx11 : w (x + 11) = some (.inl (ar 0, 120, .inl (fun q => iz ((τ 11) q))))) (hy1 : w (y + 1) = some (.inr (9, [.int (iz (θ 1 0)), .ref (y + 2), .ref (y + 3), .ref (y + 4), .ref (y + 5), .ref (y + 6), .ref (y + 7), .ref (y + 8), .int (iz (θ 1 8)), .int (iz (θ 1 9)), .int (iz (θ 1 10)), .ref (y + 9), .int (iz (θ 1 12)), .int (iz (θ 1 13)), .int (iz (θ 1 14)), .ref (y + 10), .int (iz (θ 1 16)), .ref (y + 11), .ref (y + 12), .ref (y + 18)]))) (hy4 : w (y + 4) = some (.inl (ar 0, 8, .inl (fun q => iz ((θ 4) q))))) (hy5 : w (y + 5) = some (.inl (ar 0, 8, .inl (fun q => iz ((θ 5) q))))) (hy9 : w (y + 9) = some (.inl (ar 1, 500, .inl (fun q => iz ((θ 9) q))))) (hy10 : w (y + 10) = some (.inl (ar 3, 3, .inr (.inr (.inr (.inr (fun q => rfv (θ 10 q)))))))) (hy11 : w (y + 11) = some (.inl (ar 0, 120, .inl (fun q => iz ((θ 11) q))))) (hp0 : w p0 = some (.inr (2, v0))) (hc0 : rfv (θ 10 0) = some p0) (hd0 : p0 ≠ x + 4 ∧ p0 ≠ x + 5 ∧ p0 ≠ x + 9 ∧ p0 ≠ x + 10 ∧ p0 ≠ x + 11) (hp1 : w p1 = some (.inr (2, v1))) (hc1 : rfv (θ 10 1) = some p1) (hd1 : p1 ≠ x + 4 ∧ p1 ≠ x + 5 ∧ p1 ≠ x + 9 ∧ p1 ≠ x + 10 ∧ p1 ≠ x + 11) (hp2 : w p2 = some (.inr (2, v2))) (hc2 : rfv (θ 10 2) = some p2) (hd2 : p2 ≠ x + 4 ∧ p2 ≠ x + 5 ∧ p2 ≠ x + 9 ∧ p2 ≠ x + 10 ∧ p2 ≠ x + 11) (hb : ∀ i, i < 500 → fits .byte (.int (iz (θ 9 i))) = true) : zc_M l D ar B yX8_takeRows cX8_takeRows 3 none 1 40 0 0 [.ref (x + 1), .ref (y + 1)] w n (fun r' w' n' => r' = none ∧ w' = (zc_u (zc_u (zc_u (zc_u (zc_u w (x + 4) (.inl (ar 0, 8, .inl (fun q => iz ((cpy9 (θ 4) (τ 4) 8) q))))) (x + 5) (.inl (ar 0, 8, .inl (fun q => iz ((cpy9 (θ 5) (τ 5) 8) q))))) (x + 9) (.inl (ar 1, 500, .inl (fun q => iz ((cpy9 (θ 9) (τ 9) 500) q))))) (x + 11) (.inl (ar 0, 120, .inl (fun q => iz ((cpy9 (θ 11) (τ 11) 120) q))))) (x + 10) (.inl (ar 3, 3, .inr (.inr (.inr (.inr (fun q => if q = 2 then some p2 else (fun q => if q = 1 then some p1 else (fun q => if q = 0 then some p0 else (fun q => rfv (τ 10 q)) q) q) q))))))) ∧ n' = n) := by
  refine zc_start (own := RX8) (by decide +kernel) rfl (Nat.le_of_ble_eq_true rfl) ?_
  intro p e s m args below meth c C K hr hlk hnam
  refine hv_aload_n C 1 1 dX8_takeRows_0 rfl rfl ?_
  refine zc_get C K (v := .ref (y + 4)) 3 rfl hu_9 (by decide) hy1 rfl fl_X8_21 rfl dX8_takeRows_1 ?_
  refine hv_iconst C dX8_takeRows_4 ?_
  refine hv_aload_n C 0 0 dX8_takeRows_5 rfl rfl ?_
  refine zc_get C K (v := .ref (x + 4)) 3 rfl hu_9 (by decide) hx1 rfl fl_X8_21 rfl dX8_takeRows_6 ?_
  refine hv_iconst C dX8_takeRows_9 ?_
  refine hv_bipush C dX8_takeRows_10 (by decide) ?_
  refine zc_cpi C K (f := (θ 4)) (g := (τ 4)) (w2 := (zc_u w (x + 4) (.inl (ar 0, 8, .inl (fun q => iz ((cpy9 (θ 4) (τ 4) 8) q)))))) 0 8 rfl hy4 hx4 rfl rfl (by decide) (by decide) (by decide) (fun i z => rfl) rfl ac_X8_122 (by decide) (Nat.le_of_ble_eq_true rfl) dX8_takeRows_12 ?_
  refine hv_aload_n C 1 1 dX8_takeRows_15 rfl rfl ?_
  refine zc_get C K (v := .ref (y + 5)) 4 rfl hu_9 (by decide) (zg_ne (by omega) hy1) rfl fl_X8_25 rfl dX8_takeRows_16 ?_
  refine hv_iconst C dX8_takeRows_19 ?_
  refine hv_aload_n C 0 0 dX8_takeRows_20 rfl rfl ?_
  refine zc_get C K (v := .ref (x + 5)) 4 rfl hu_9 (by decide) (zg_ne (by omega) hx1) rfl fl_X8_25 rfl dX8_takeRows_21 ?_
  refine hv_iconst C dX8_takeRows_24 ?_
  refine hv_bipush C dX8_takeRows_25 (by decide) ?_
  refine zc_cpi C K (f := (θ 5)) (g := (τ 5)) (w2 := (zc_u (zc_u w (x + 4) (.inl (ar 0, 8, .inl (fun q => iz ((cpy9 (θ 4) (τ 4) 8) q))))) (x + 5) (.inl (ar 0, 8, .inl (fun q => iz ((cpy9 (θ 5) (τ 5) 8) q)))))) 0 8 rfl (zg_ne (by omega) hy5) (zg_ne (by omega) hx5) rfl rfl (by decide) (by decide) (by decide) (fun i z => rfl) rfl ac_X8_122 (by decide) (Nat.le_of_ble_eq_true rfl) dX8_takeRows_27 ?_
  refine hv_aload_n C 1 1 dX8_takeRows_30 rfl rfl ?_
  refine zc_get C K (v := .ref (y + 9)) 11 rfl hu_9 (by decide) (zg_ne (by omega) (zg_ne (by omega) hy1)) rfl fl_X8_44 rfl dX8_takeRows_31 ?_
  refine hv_iconst C dX8_takeRows_34 ?_
  refine hv_aload_n C 0 0 dX8_takeRows_35 rfl rfl ?_
  refine zc_get C K (v := .ref (x + 9)) 11 rfl hu_9 (by decide) (zg_ne (by omega) (zg_ne (by omega) hx1)) rfl fl_X8_44 rfl dX8_takeRows_36 ?_
  refine hv_iconst C dX8_takeRows_39 ?_
  refine hv_sipush C dX8_takeRows_40 (by decide) ?_
  refine zc_cpi C K (f := (θ 9)) (g := (τ 9)) (w2 := (zc_u (zc_u (zc_u w (x + 4) (.inl (ar 0, 8, .inl (fun q => iz ((cpy9 (θ 4) (τ 4) 8) q))))) (x + 5) (.inl (ar 0, 8, .inl (fun q => iz ((cpy9 (θ 5) (τ 5) 8) q))))) (x + 9) (.inl (ar 1, 500, .inl (fun q => iz ((cpy9 (θ 9) (τ 9) 500) q)))))) 1 500 rfl (zg_ne (by omega) (zg_ne (by omega) hy9)) (zg_ne (by omega) (zg_ne (by omega) hx9)) rfl rfl (by decide) (by decide) (by decide) (fun i z => hb i z) rfl ac_X8_122 (by decide) (Nat.le_of_ble_eq_true rfl) dX8_takeRows_43 ?_
  refine hv_aload_n C 1 1 dX8_takeRows_46 rfl rfl ?_
  refine zc_get C K (v := .ref (y + 11)) 17 rfl hu_9 (by decide) (zg_ne (by omega) (zg_ne (by omega) (zg_ne (by omega) hy1))) rfl fl_X8_57 rfl dX8_takeRows_47 ?_
  refine hv_iconst C dX8_takeRows_50 ?_
  refine hv_aload_n C 0 0 dX8_takeRows_51 rfl rfl ?_
  refine zc_get C K (v := .ref (x + 11)) 17 rfl hu_9 (by decide) (zg_ne (by omega) (zg_ne (by omega) (zg_ne (by omega) hx1))) rfl fl_X8_57 rfl dX8_takeRows_52 ?_
  refine hv_iconst C dX8_takeRows_55 ?_
  refine hv_bipush C dX8_takeRows_56 (by decide) ?_
  refine zc_cpi C K (f := (θ 11)) (g := (τ 11)) (w2 := (zc_u (zc_u (zc_u (zc_u w (x + 4) (.inl (ar 0, 8, .inl (fun q => iz ((cpy9 (θ 4) (τ 4) 8) q))))) (x + 5) (.inl (ar 0, 8, .inl (fun q => iz ((cpy9 (θ 5) (τ 5) 8) q))))) (x + 9) (.inl (ar 1, 500, .inl (fun q => iz ((cpy9 (θ 9) (τ 9) 500) q))))) (x + 11) (.inl (ar 0, 120, .inl (fun q => iz ((cpy9 (θ 11) (τ 11) 120) q)))))) 0 120 rfl (zg_ne (by omega) (zg_ne (by omega) (zg_ne (by omega) hy11))) (zg_ne (by omega) (zg_ne (by omega) (zg_ne (by omega) hx11))) rfl rfl (by decide) (by decide) (by decide) (fun i z => rfl) rfl ac_X8_122 (by decide) (Nat.le_of_ble_eq_true rfl) dX8_takeRows_58 ?_
  refine hv_iconst C dX8_takeRows_61 ?_
  refine hv_istore_n C 2 [(2, .int (iz 0)), (0, .ref (x + 1)), (1, .ref (y + 1))] dX8_takeRows_62 rfl (by decide) rfl ?_
  refine hv_iload_n C 2 0 dX8_takeRows_63 rfl rfl ?_
  refine hv_iconst C dX8_takeRows_64 ?_
  refine hv_icmp_ge C 86 dX8_takeRows_65 (by decide) (by decide) (by decide) (fun h => absurd h (by decide)) (fun _ => ?_)
  refine hv_aload_n C 0 1 dX8_takeRows_68 rfl rfl ?_
  refine zc_get C K (v := .ref (x + 10)) 15 rfl hu_9 (by decide) (zg_ne (by omega) (zg_ne (by omega) (zg_ne (by omega) (zg_ne (by omega) hx1)))) rfl fl_X8_53 rfl dX8_takeRows_69 ?_
  refine hv_iload_n C 2 0 dX8_takeRows_72 rfl rfl ?_
  refine hv_aload_n C 1 2 dX8_takeRows_73 rfl rfl ?_
  refine zc_get C K (v := .ref (y + 10)) 15 rfl hu_9 (by decide) (zg_ne (by omega) (zg_ne (by omega) (zg_ne (by omega) (zg_ne (by omega) hy1)))) rfl fl_X8_53 rfl dX8_takeRows_74 ?_
  refine hv_iload_n C 2 0 dX8_takeRows_77 rfl rfl ?_
  refine zc_aald C K (f := (fun q => rfv (θ 10 q))) 3 0 (zg_ne (by omega) (zg_ne (by omega) (zg_ne (by omega) (zg_ne (by omega) hy10)))) rfl (by decide) (by decide) (by decide) dX8_takeRows_78 ?_
  refine hv_asv (.ref p0) (by show va_rf (rfv (θ 10 0)) = _; rw [hc0]; rfl) ?_
  refine zc_aast C K (w2 := (zc_u (zc_u (zc_u (zc_u (zc_u w (x + 4) (.inl (ar 0, 8, .inl (fun q => iz ((cpy9 (θ 4) (τ 4) 8) q))))) (x + 5) (.inl (ar 0, 8, .inl (fun q => iz ((cpy9 (θ 5) (τ 5) 8) q))))) (x + 9) (.inl (ar 1, 500, .inl (fun q => iz ((cpy9 (θ 9) (τ 9) 500) q))))) (x + 11) (.inl (ar 0, 120, .inl (fun q => iz ((cpy9 (θ 11) (τ 11) 120) q))))) (x + 10) (.inl (ar 3, 3, .inr (.inr (.inr (.inr (fun q => if q = 0 then some p0 else (fun q => rfv (τ 10 q)) q)))))))) (f := (fun q => rfv (τ 10 q))) 3 0 (zg_ne (by omega) (zg_ne (by omega) (zg_ne (by omega) (zg_ne (by omega) hx10)))) rfl (zg_ne (by omega) (zg_ne (by omega) (zg_ne (by omega) (zg_ne (by omega) hp0)))) rfl (Or.inr rfl) rfl rfl (by decide) (by decide) dX8_takeRows_79 ?_
  refine hv_iinc C 2 0 [(2, .int (iz ((0 : Int) + 1))), (0, .ref (x + 1)), (1, .ref (y + 1))] dX8_takeRows_80 rfl (by decide) rfl ?_
  refine hv_loc [0, 1, 2] [(2, .int (iz 1)), (0, .ref (x + 1)), (1, .ref (y + 1))] rfl ?_
  refine hv_goto C 63 dX8_takeRows_83 (by decide) ?_
  refine hv_iload_n C 2 0 dX8_takeRows_63 rfl rfl ?_
  refine hv_iconst C dX8_takeRows_64 ?_
  refine hv_icmp_ge C 86 dX8_takeRows_65 (by decide) (by decide) (by decide) (fun h => absurd h (by decide)) (fun _ => ?_)
  refine hv_aload_n C 0 1 dX8_takeRows_68 rfl rfl ?_
  refine zc_get C K (v := .ref (x + 10)) 15 rfl hu_9 (by decide) (zg_ne (by omega) (zg_ne (by omega) (zg_ne (by omega) (zg_ne (by omega) (zg_ne (by omega) hx1))))) rfl fl_X8_53 rfl dX8_takeRows_69 ?_
  refine hv_iload_n C 2 0 dX8_takeRows_72 rfl rfl ?_
  refine hv_aload_n C 1 2 dX8_takeRows_73 rfl rfl ?_
  refine zc_get C K (v := .ref (y + 10)) 15 rfl hu_9 (by decide) (zg_ne (by omega) (zg_ne (by omega) (zg_ne (by omega) (zg_ne (by omega) (zg_ne (by omega) hy1))))) rfl fl_X8_53 rfl dX8_takeRows_74 ?_
  refine hv_iload_n C 2 0 dX8_takeRows_77 rfl rfl ?_
  refine zc_aald C K (f := (fun q => rfv (θ 10 q))) 3 1 (zg_ne (by omega) (zg_ne (by omega) (zg_ne (by omega) (zg_ne (by omega) (zg_ne (by omega) hy10))))) rfl (by decide) (by decide) (by decide) dX8_takeRows_78 ?_
  refine hv_asv (.ref p1) (by show va_rf (rfv (θ 10 1)) = _; rw [hc1]; rfl) ?_
  refine zc_aast C K (w2 := (zc_u (zc_u (zc_u (zc_u (zc_u w (x + 4) (.inl (ar 0, 8, .inl (fun q => iz ((cpy9 (θ 4) (τ 4) 8) q))))) (x + 5) (.inl (ar 0, 8, .inl (fun q => iz ((cpy9 (θ 5) (τ 5) 8) q))))) (x + 9) (.inl (ar 1, 500, .inl (fun q => iz ((cpy9 (θ 9) (τ 9) 500) q))))) (x + 11) (.inl (ar 0, 120, .inl (fun q => iz ((cpy9 (θ 11) (τ 11) 120) q))))) (x + 10) (.inl (ar 3, 3, .inr (.inr (.inr (.inr (fun q => if q = 1 then some p1 else (fun q => if q = 0 then some p0 else (fun q => rfv (τ 10 q)) q) q)))))))) (f := (fun q => if q = 0 then some p0 else (fun q => rfv (τ 10 q)) q)) 3 1 zg_at rfl (zg_ne (by omega) (zg_ne (by omega) (zg_ne (by omega) (zg_ne (by omega) (zg_ne (by omega) hp1))))) rfl (Or.inr rfl) (by rw [zg_uu] <;> rfl) rfl (by decide) (by decide) dX8_takeRows_79 ?_
  refine hv_iinc C 2 0 [(2, .int (iz ((1 : Int) + 1))), (0, .ref (x + 1)), (1, .ref (y + 1))] dX8_takeRows_80 rfl (by decide) rfl ?_
  refine hv_loc [0, 1, 2] [(2, .int (iz 2)), (0, .ref (x + 1)), (1, .ref (y + 1))] rfl ?_
  refine hv_goto C 63 dX8_takeRows_83 (by decide) ?_
  refine hv_iload_n C 2 0 dX8_takeRows_63 rfl rfl ?_
  refine hv_iconst C dX8_takeRows_64 ?_
  refine hv_icmp_ge C 86 dX8_takeRows_65 (by decide) (by decide) (by decide) (fun h => absurd h (by decide)) (fun _ => ?_)
  refine hv_aload_n C 0 1 dX8_takeRows_68 rfl rfl ?_
  refine zc_get C K (v := .ref (x + 10)) 15 rfl hu_9 (by decide) (zg_ne (by omega) (zg_ne (by omega) (zg_ne (by omega) (zg_ne (by omega) (zg_ne (by omega) hx1))))) rfl fl_X8_53 rfl dX8_takeRows_69 ?_
  refine hv_iload_n C 2 0 dX8_takeRows_72 rfl rfl ?_
  refine hv_aload_n C 1 2 dX8_takeRows_73 rfl rfl ?_
  refine zc_get C K (v := .ref (y + 10)) 15 rfl hu_9 (by decide) (zg_ne (by omega) (zg_ne (by omega) (zg_ne (by omega) (zg_ne (by omega) (zg_ne (by omega) hy1))))) rfl fl_X8_53 rfl dX8_takeRows_74 ?_
  refine hv_iload_n C 2 0 dX8_takeRows_77 rfl rfl ?_
  refine zc_aald C K (f := (fun q => rfv (θ 10 q))) 3 2 (zg_ne (by omega) (zg_ne (by omega) (zg_ne (by omega) (zg_ne (by omega) (zg_ne (by omega) hy10))))) rfl (by decide) (by decide) (by decide) dX8_takeRows_78 ?_
  refine hv_asv (.ref p2) (by show va_rf (rfv (θ 10 2)) = _; rw [hc2]; rfl) ?_
  refine zc_aast C K (w2 := (zc_u (zc_u (zc_u (zc_u (zc_u w (x + 4) (.inl (ar 0, 8, .inl (fun q => iz ((cpy9 (θ 4) (τ 4) 8) q))))) (x + 5) (.inl (ar 0, 8, .inl (fun q => iz ((cpy9 (θ 5) (τ 5) 8) q))))) (x + 9) (.inl (ar 1, 500, .inl (fun q => iz ((cpy9 (θ 9) (τ 9) 500) q))))) (x + 11) (.inl (ar 0, 120, .inl (fun q => iz ((cpy9 (θ 11) (τ 11) 120) q))))) (x + 10) (.inl (ar 3, 3, .inr (.inr (.inr (.inr (fun q => if q = 2 then some p2 else (fun q => if q = 1 then some p1 else (fun q => if q = 0 then some p0 else (fun q => rfv (τ 10 q)) q) q) q)))))))) (f := (fun q => if q = 1 then some p1 else (fun q => if q = 0 then some p0 else (fun q => rfv (τ 10 q)) q) q)) 3 2 zg_at rfl (zg_ne (by omega) (zg_ne (by omega) (zg_ne (by omega) (zg_ne (by omega) (zg_ne (by omega) hp2))))) rfl (Or.inr rfl) (by rw [zg_uu] <;> rfl) rfl (by decide) (by decide) dX8_takeRows_79 ?_
  refine hv_iinc C 2 0 [(2, .int (iz ((2 : Int) + 1))), (0, .ref (x + 1)), (1, .ref (y + 1))] dX8_takeRows_80 rfl (by decide) rfl ?_
  refine hv_loc [0, 1, 2] [(2, .int (iz 3)), (0, .ref (x + 1)), (1, .ref (y + 1))] rfl ?_
  refine hv_goto C 63 dX8_takeRows_83 (by decide) ?_
  refine hv_iload_n C 2 0 dX8_takeRows_63 rfl rfl ?_
  refine hv_iconst C dX8_takeRows_64 ?_
  refine hv_icmp_ge C 86 dX8_takeRows_65 (by decide) (by decide) (by decide) (fun _ => ?_) (fun h => absurd h (by decide))
  exact zc_vret C hr hlk ⟨rfl, rfl, rfl⟩ dX8_takeRows_86
