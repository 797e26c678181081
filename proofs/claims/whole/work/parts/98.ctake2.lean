/-! Told.takeAll -/
theorem tk_10 {τ θ : Nat → Nat → Int} {p0 p1 p2 : Nat} (h0 : rfv (θ 10 0) = some p0) (h1 : rfv (θ 10 1) = some p1) (h2 : rfv (θ 10 2) = some p2) : (fun q => if q = 2 then some p2 else (fun q => if q = 1 then some p1 else (fun q => if q = 0 then some p0 else (fun q => rfv (τ 10 q)) q) q) q) = fun q => rfv (cpy9 (θ 10) (τ 10) 3 q) := by
  funext q
  unfold cpy9
  by_cases c2 : q = 2
  · subst c2; rw [if_pos rfl, if_pos (by omega)]; exact h2.symm
  · rw [if_neg c2]
    by_cases c1 : q = 1
    · subst c1; show (if (1 : Nat) = 1 then some p1 else _) = _; rw [if_pos rfl, if_pos (by omega)]; exact h1.symm
    · show (if q = 1 then some p1 else (if q = 0 then some p0 else rfv (τ 10 q))) = _
      rw [if_neg c1]
      by_cases c0 : q = 0
      · subst c0; rw [if_pos rfl, if_pos (by omega)]; exact h0.symm
      · rw [if_neg c0, if_neg (by omega)]
/-- the taker's other cells afterwards -/
def tka9 (ar : Nat → ClassId) (x : Nat) (τ θ : Nat → Nat → Int) (w1 w' : zcW) : Prop := (∀ a, (a < x + 1 ∨ x + 18 < a) → w' a = w1 a) ∧ (∀ j, (j = 2 ∨ j = 3 ∨ j = 6 ∨ j = 7 ∨ j = 8 ∨ j = 15 ∨ j = 16 ∨ j = 17 ∨ j = 18) → w' (x + j) = w1 (x + j)) ∧ w' (x + 1) = some (.inr (9, [.int (iz (θ 1 0)), .ref (x + 2), .ref (x + 3), .ref (x + 4), .ref (x + 5), .ref (x + 6), .ref (x + 7), .ref (x + 8), .int (iz (θ 1 8)), .int (iz (θ 1 9)), .int (iz (θ 1 10)), .ref (x + 9), .int (iz (θ 1 12)), .int (iz (θ 1 13)), .int (iz (θ 1 14)), .ref (x + 10), .int (iz (θ 1 16)), .ref (x + 11), .ref (x + 12), .ref (x + 18)])) ∧ w' (x + 4) = some (.inl (ar 0, 8, .inl (fun q => iz ((cpy9 (θ 4) (τ 4) 8) q)))) ∧ w' (x + 5) = some (.inl (ar 0, 8, .inl (fun q => iz ((cpy9 (θ 5) (τ 5) 8) q)))) ∧ w' (x + 9) = some (.inl (ar 1, 500, .inl (fun q => iz ((cpy9 (θ 9) (τ 9) 500) q)))) ∧ w' (x + 10) = some (.inl (ar 3, 3, .inr (.inr (.inr (.inr (fun q => rfv (cpy9 (θ 10) (τ 10) 3 q))))))) ∧ w' (x + 11) = some (.inl (ar 0, 120, .inl (fun q => iz ((cpy9 (θ 11) (τ 11) 120) q)))) ∧ w' (x + 12) = some (.inr (3, [.int (iz (θ 12 0)), .ref (x + 13), .ref (x + 14), .int (iz (τ 12 3)), .ref (x + 15), .ref (x + 16), .ref (x + 17)])) ∧ w' (x + 13) = some (.inl (ar 0, 6, .inl (fun q => iz ((cpy9 (θ 13) (τ 13) 6) q)))) ∧ w' (x + 14) = some (.inl (ar 0, 36, .inl (fun q => iz ((cpy9 (θ 14) (τ 14) 36) q))))
theorem dX8_takeAll_0 : decode cX8_takeAll 0 = .ok (.aload_n 0, 1) := by decide +kernel
theorem dX8_takeAll_1 : decode cX8_takeAll 1 = .ok (.aload_n 1, 1) := by decide +kernel
theorem dX8_takeAll_2 : decode cX8_takeAll 2 = .ok (.invokevirtual 71, 3) := by decide +kernel
theorem dX8_takeAll_5 : decode cX8_takeAll 5 = .ok (.aload_n 0, 1) := by decide +kernel
theorem dX8_takeAll_6 : decode cX8_takeAll 6 = .ok (.aload_n 1, 1) := by decide +kernel
theorem dX8_takeAll_7 : decode cX8_takeAll 7 = .ok (.invokevirtual 75, 3) := by decide +kernel
theorem dX8_takeAll_10 : decode cX8_takeAll 10 = .ok (.aload_n 0, 1) := by decide +kernel
theorem dX8_takeAll_11 : decode cX8_takeAll 11 = .ok (.aload_n 1, 1) := by decide +kernel
theorem dX8_takeAll_12 : decode cX8_takeAll 12 = .ok (.getfield 78, 3) := by decide +kernel
theorem dX8_takeAll_15 : decode cX8_takeAll 15 = .ok (.putfield 78, 3) := by decide +kernel
theorem dX8_takeAll_18 : decode cX8_takeAll 18 = .ok (.aload_n 0, 1) := by decide +kernel
theorem dX8_takeAll_19 : decode cX8_takeAll 19 = .ok (.aload_n 1, 1) := by decide +kernel
theorem dX8_takeAll_20 : decode cX8_takeAll 20 = .ok (.getfield 81, 3) := by decide +kernel
theorem dX8_takeAll_23 : decode cX8_takeAll 23 = .ok (.putfield 81, 3) := by decide +kernel
theorem dX8_takeAll_26 : decode cX8_takeAll 26 = .ok (.aload_n 0, 1) := by decide +kernel
theorem dX8_takeAll_27 : decode cX8_takeAll 27 = .ok (.aload_n 1, 1) := by decide +kernel
theorem dX8_takeAll_28 : decode cX8_takeAll 28 = .ok (.getfield 37, 3) := by decide +kernel
theorem dX8_takeAll_31 : decode cX8_takeAll 31 = .ok (.putfield 37, 3) := by decide +kernel
theorem dX8_takeAll_34 : decode cX8_takeAll 34 = .ok (.aload_n 0, 1) := by decide +kernel
theorem dX8_takeAll_35 : decode cX8_takeAll 35 = .ok (.aload_n 1, 1) := by decide +kernel
theorem dX8_takeAll_36 : decode cX8_takeAll 36 = .ok (.getfield 41, 3) := by decide +kernel
theorem dX8_takeAll_39 : decode cX8_takeAll 39 = .ok (.putfield 41, 3) := by decide +kernel
theorem dX8_takeAll_42 : decode cX8_takeAll 42 = .ok (.aload_n 0, 1) := by decide +kernel
theorem dX8_takeAll_43 : decode cX8_takeAll 43 = .ok (.aload_n 1, 1) := by decide +kernel
theorem dX8_takeAll_44 : decode cX8_takeAll 44 = .ok (.getfield 84, 3) := by decide +kernel
theorem dX8_takeAll_47 : decode cX8_takeAll 47 = .ok (.putfield 84, 3) := by decide +kernel
theorem dX8_takeAll_50 : decode cX8_takeAll 50 = .ok (.aload_n 0, 1) := by decide +kernel
theorem dX8_takeAll_51 : decode cX8_takeAll 51 = .ok (.aload_n 1, 1) := by decide +kernel
theorem dX8_takeAll_52 : decode cX8_takeAll 52 = .ok (.getfield 87, 3) := by decide +kernel
theorem dX8_takeAll_55 : decode cX8_takeAll 55 = .ok (.putfield 87, 3) := by decide +kernel
theorem dX8_takeAll_58 : decode cX8_takeAll 58 = .ok (.aload_n 0, 1) := by decide +kernel
theorem dX8_takeAll_59 : decode cX8_takeAll 59 = .ok (.aload_n 1, 1) := by decide +kernel
theorem dX8_takeAll_60 : decode cX8_takeAll 60 = .ok (.getfield 48, 3) := by decide +kernel
theorem dX8_takeAll_63 : decode cX8_takeAll 63 = .ok (.putfield 48, 3) := by decide +kernel
theorem dX8_takeAll_66 : decode cX8_takeAll 66 = .ok (.aload_n 0, 1) := by decide +kernel
theorem dX8_takeAll_67 : decode cX8_takeAll 67 = .ok (.aload_n 1, 1) := by decide +kernel
theorem dX8_takeAll_68 : decode cX8_takeAll 68 = .ok (.getfield 90, 3) := by decide +kernel
theorem dX8_takeAll_71 : decode cX8_takeAll 71 = .ok (.putfield 90, 3) := by decide +kernel
theorem dX8_takeAll_74 : decode cX8_takeAll 74 = .ok (.aload_n 0, 1) := by decide +kernel
theorem dX8_takeAll_75 : decode cX8_takeAll 75 = .ok (.getfield 63, 3) := by decide +kernel
theorem dX8_takeAll_78 : decode cX8_takeAll 78 = .ok (.aload_n 1, 1) := by decide +kernel
theorem dX8_takeAll_79 : decode cX8_takeAll 79 = .ok (.getfield 63, 3) := by decide +kernel
theorem dX8_takeAll_82 : decode cX8_takeAll 82 = .ok (.invokevirtual 93, 3) := by decide +kernel
theorem dX8_takeAll_85 : decode cX8_takeAll 85 = .ok (.return_, 1) := by decide +kernel
theorem ck_X8_71 : zcV RX8 RX8 yX8_takeLists cX8_takeLists 3 none 71 1 := ⟨hk_tq5 101 (by decide +kernel) (by decide +kernel), hk_tq5 98 (by decide +kernel) (by decide +kernel), hk_tq1 2 (by decide +kernel) (by decide +kernel), ⟨by decide, by decide, by decide +kernel⟩, hk_tq5 100 (by decide +kernel) (by decide +kernel), hk_s 33 (by decide +kernel) (by decide +kernel)⟩
theorem ck_X8_75 : zcV RX8 RX8 yX8_takeRows cX8_takeRows 3 none 75 1 := ⟨hk_tq5 111 (by decide +kernel) (by decide +kernel), hk_tq5 108 (by decide +kernel) (by decide +kernel), hk_tq1 2 (by decide +kernel) (by decide +kernel), ⟨by decide, by decide, by decide +kernel⟩, hk_tq5 110 (by decide +kernel) (by decide +kernel), hk_s 34 (by decide +kernel) (by decide +kernel)⟩
theorem fl_X8_78 : Cond.fieldLink RX8 78 "HookUps$Told" (TX8 0).2.1 (TX8 0).2.2.1 ∈ hk_tb := hk_tq1 123 (by decide +kernel) (by decide +kernel)
theorem fl_X8_81 : Cond.fieldLink RX8 81 "HookUps$Told" (TX8 8).2.1 (TX8 8).2.2.1 ∈ hk_tb := hk_tq1 143 (by decide +kernel) (by decide +kernel)
theorem fl_X8_87 : Cond.fieldLink RX8 87 "HookUps$Told" (TX8 13).2.1 (TX8 13).2.2.1 ∈ hk_tb := hk_tq1 153 (by decide +kernel) (by decide +kernel)
theorem fl_X8_90 : Cond.fieldLink RX8 90 "HookUps$Told" (TX8 16).2.1 (TX8 16).2.2.1 ∈ hk_tb := hk_tq1 159 (by decide +kernel) (by decide +kernel)
theorem ck_X8_93 : zcV RX8 RX2 yX2_takeAll cX2_takeAll 2 none 93 1 := ⟨hk_tq5 116 (by decide +kernel) (by decide +kernel), hk_tq5 113 (by decide +kernel) (by decide +kernel), hk_tq1 6 (by decide +kernel) (by decide +kernel), ⟨by decide, by decide, by decide +kernel⟩, hk_tq5 114 (by decide +kernel) (by decide +kernel), hk_tq5 115 (by decide +kernel) (by decide +kernel)⟩
set_option maxRecDepth 100000 in
set_option maxHeartbeats 4000000 in
theorem g_takeAll (l : Launch) {D : va_G} {ar : Nat → ClassId} {B : Nat → Prop} {n : Nat} {w : zcW} {o : olP} (τ θ : Nat → Nat → Int) {x y p0 p1 p2 : Nat} {v0 v1 v2 : List Value} {m0 m1 : Nat → Int} {ee sz0 es sz : Nat → Nat} {P : Nat → Nat → Nat} {vs : Nat → Nat → List Value} (hxy : x + 23 ≤ y ∨ y + 23 ≤ x) (hx1 : w (x + 1) = some (.inr (9, [.int (iz (τ 1 0)), .ref (x + 2), .ref (x + 3), .ref (x + 4), .ref (x + 5), .ref (x + 6), .ref (x + 7), .ref (x + 8), .int (iz (τ 1 8)), .int (iz (τ 1 9)), .int (iz (τ 1 10)), .ref (x + 9), .int (iz (τ 1 12)), .int (iz (τ 1 13)), .int (iz (τ 1 14)), .ref (x + 10), .int (iz (τ 1 16)), .ref (x + 11), .ref (x + 12), .ref (x + 18)]))) (hx4 : w (x + 4) = some (.inl (ar 0, 8, .inl (fun q => iz ((τ 4) q))))) (hx5 : w (x + 5) = some (.inl (ar 0, 8, .inl (fun q => iz ((τ 5) q))))) (hx9 : w (x + 9) = some (.inl (ar 1, 500, .inl (fun q => iz ((τ 9) q))))) (hx10 : w (x + 10) = some (.inl (ar 3, 3, .inr (.inr (.inr (.inr (fun q => rfv (τ 10 q)))))))) (hx11 : w (x + 11) = some (.inl (ar 0, 120, .inl (fun q => iz ((τ 11) q))))) (hy1 : w (y + 1) = some (.inr (9, [.int (iz (θ 1 0)), .ref (y + 2), .ref (y + 3), .ref (y + 4), .ref (y + 5), .ref (y + 6), .ref (y + 7), .ref (y + 8), .int (iz (θ 1 8)), .int (iz (θ 1 9)), .int (iz (θ 1 10)), .ref (y + 9), .int (iz (θ 1 12)), .int (iz (θ 1 13)), .int (iz (θ 1 14)), .ref (y + 10), .int (iz (θ 1 16)), .ref (y + 11), .ref (y + 12), .ref (y + 18)]))) (hy4 : w (y + 4) = some (.inl (ar 0, 8, .inl (fun q => iz ((θ 4) q))))) (hy5 : w (y + 5) = some (.inl (ar 0, 8, .inl (fun q => iz ((θ 5) q))))) (hy9 : w (y + 9) = some (.inl (ar 1, 500, .inl (fun q => iz ((θ 9) q))))) (hy10 : w (y + 10) = some (.inl (ar 3, 3, .inr (.inr (.inr (.inr (fun q => rfv (θ 10 q)))))))) (hy11 : w (y + 11) = some (.inl (ar 0, 120, .inl (fun q => iz ((θ 11) q))))) (hp0 : w p0 = some (.inr (2, v0))) (hc0 : rfv (θ 10 0) = some p0) (hp1 : w p1 = some (.inr (2, v1))) (hc1 : rfv (θ 10 1) = some p1) (hp2 : w p2 = some (.inr (2, v2))) (hc2 : rfv (θ 10 2) = some p2) (hx12 : w (x + 12) = some (.inr (3, [.int (iz (τ 12 0)), .ref (x + 13), .ref (x + 14), .int (iz (τ 12 3)), .ref (x + 15), .ref (x + 16), .ref (x + 17)]))) (hx13 : w (x + 13) = some (.inl (ar 0, 6, .inl (fun q => iz ((τ 13) q))))) (hx14 : w (x + 14) = some (.inl (ar 0, 36, .inl (fun q => iz ((τ 14) q))))) (hy12 : w (y + 12) = some (.inr (3, [.int (iz (θ 12 0)), .ref (y + 13), .ref (y + 14), .int (iz (θ 12 3)), .ref (y + 15), .ref (y + 16), .ref (y + 17)]))) (hy13 : w (y + 13) = some (.inl (ar 0, 6, .inl (fun q => iz ((θ 13) q))))) (hy14 : w (y + 14) = some (.inl (ar 0, 36, .inl (fun q => iz ((θ 14) q))))) (hb : ∀ i, i < 500 → fits .byte (.int (iz (θ 9 i))) = true) (hq0 : p0 < n ∧ (p0 < x + 1 ∨ x + 19 ≤ p0) ∧ ∀ j, isj9 j → p0 ≠ ee j) (hq1 : p1 < n ∧ (p1 < x + 1 ∨ x + 19 ≤ p1) ∧ ∀ j, isj9 j → p1 ≠ ee j) (hq2 : p2 < n ∧ (p2 < x + 1 ∨ x + 19 ≤ p2) ∧ ∀ j, isj9 j → p2 ≠ ee j) (hA : tlH ar w n o.2.1 x y m0 m1 ee sz0 es sz P vs) (hN : tlN o.2.1 x y ee es sz P) (hn : x + 19 ≤ n ∧ y + 19 ≤ n) (he0 : o.2.1 < x ∧ o.2.1 < y) (hB : ∀ a, B a → o.2.1 < a) (hfree : ∀ a, n ≤ a → w a = none) : zo_M l D ar B o yX8_takeAll cX8_takeAll 2 none 8 300 108 6480 [.ref (x + 1), .ref (y + 1)] w n (fun r' w' n' => r' = none ∧ ∃ (w1 : zcW) (E : Nat → Nat), tlS ar w n o.2.1 x ee sz P [8, 7, 6, 3, 2] w1 n' E ∧ tka9 ar x τ θ w1 w') := by
  refine zo_start (own := RX8) (by decide +kernel) rfl (Nat.le_of_ble_eq_true rfl) ?_
  intro p e s m args below meth c C K O hz hr hlk hnam
  refine hv_aload_n C 0 0 dX8_takeAll_0 rfl rfl ?_
  refine hv_aload_n C 1 1 dX8_takeAll_1 rfl rfl ?_
  refine zo_callV [.ref (y + 1)] [] C K O hx1 rfl (g_takeLists l hA hN hxy hn he0 hx1 hy1 ⟨rfl, rfl, rfl, rfl, rfl⟩ ⟨rfl, rfl, rfl, rfl, rfl⟩ hB hfree) ck_X8_71 ⟨by decide, by decide⟩ ⟨by decide, by decide⟩ rfl (Nat.le_of_ble_eq_true rfl) dX8_takeAll_2 ?_
  rintro r' w1 n1 ⟨h1, E, hS⟩; subst h1
  have fr : ∀ a, a < n → (∀ j ∈ [8, 7, 6, 3, 2], a ≠ x + j ∧ a ≠ ee j) → w1 a = w a := hS.1
  have i9 : ∀ j ∈ [8, 7, 6, 3, 2], isj9 j := by unfold isj9; decide
  have fx : ∀ i, (1 ≤ i ∧ i ≤ 18) → (i ≠ 2 ∧ i ≠ 3 ∧ i ≠ 6 ∧ i ≠ 7 ∧ i ≠ 8) → w1 (x + i) = w (x + i) := fun i h1 h2 => fr _ (by omega) (fun j hj => by have q1 := (hN j (i9 j hj)).1; have q2 := i9 j hj; unfold isj9 at q2; omega)
  have fy : ∀ i, (1 ≤ i ∧ i ≤ 18) → w1 (y + i) = w (y + i) := fun i h1 => fr _ (by omega) (fun j hj => by have q1 := (hN j (i9 j hj)).2.1; have q2 := isj_lt (i9 j hj); omega)
  have kx1 := (fx 1 (by decide) (by decide)).trans hx1
  have ky1 := (fy 1 (by decide)).trans hy1
  have kx4 := (fx 4 (by decide) (by decide)).trans hx4
  have ky4 := (fy 4 (by decide)).trans hy4
  have kx5 := (fx 5 (by decide) (by decide)).trans hx5
  have ky5 := (fy 5 (by decide)).trans hy5
  have kx9 := (fx 9 (by decide) (by decide)).trans hx9
  have ky9 := (fy 9 (by decide)).trans hy9
  have kx10 := (fx 10 (by decide) (by decide)).trans hx10
  have ky10 := (fy 10 (by decide)).trans hy10
  have kx11 := (fx 11 (by decide) (by decide)).trans hx11
  have ky11 := (fy 11 (by decide)).trans hy11
  have kx12 := (fx 12 (by decide) (by decide)).trans hx12
  have ky12 := (fy 12 (by decide)).trans hy12
  have kx13 := (fx 13 (by decide) (by decide)).trans hx13
  have ky13 := (fy 13 (by decide)).trans hy13
  have kx14 := (fx 14 (by decide) (by decide)).trans hx14
  have ky14 := (fy 14 (by decide)).trans hy14
  have kp0 := (fr p0 hq0.1 (fun j hj => by have q2 := isj_lt (i9 j hj); have q3 := hq0.2.2 j (i9 j hj); omega)).trans hp0
  have kp1 := (fr p1 hq1.1 (fun j hj => by have q2 := isj_lt (i9 j hj); have q3 := hq1.2.2 j (i9 j hj); omega)).trans hp1
  have kp2 := (fr p2 hq2.1 (fun j hj => by have q2 := isj_lt (i9 j hj); have q3 := hq2.2.2 j (i9 j hj); omega)).trans hp2
  refine hv_aload_n C 0 0 dX8_takeAll_5 rfl rfl ?_
  refine hv_aload_n C 1 1 dX8_takeAll_6 rfl rfl ?_
  refine zg_callV [.ref (y + 1)] [] C K kx1 rfl (g_told_rows l τ θ hxy kx1 kx4 kx5 kx9 kx10 kx11 ky1 ky4 ky5 ky9 ky10 ky11 kp0 hc0 ⟨by omega, by omega, by omega, by omega, by omega⟩ kp1 hc1 ⟨by omega, by omega, by omega, by omega, by omega⟩ kp2 hc2 ⟨by omega, by omega, by omega, by omega, by omega⟩ hb) ck_X8_75 ⟨by decide, by decide⟩ ⟨by decide, by decide⟩ rfl (Nat.le_of_ble_eq_true rfl) dX8_takeAll_7 (fun r' w' n' h => h) ?_
  refine hv_aload_n C 0 0 dX8_takeAll_10 rfl rfl ?_
  refine hv_aload_n C 1 1 dX8_takeAll_11 rfl rfl ?_
  refine zc_get C K (v := .int (iz (θ 1 0))) 0 rfl hu_9 (by decide) (zg_ne (by omega) (zg_ne (by omega) (zg_ne (by omega) (zg_ne (by omega) (zg_ne (by omega) ky1))))) rfl fl_X8_78 rfl dX8_takeAll_12 ?_
  refine zc_put C K (w2 := (zc_u (zc_u (zc_u (zc_u (zc_u (zc_u w1 (x + 4) (.inl (ar 0, 8, .inl (fun q => iz ((cpy9 (θ 4) (τ 4) 8) q))))) (x + 5) (.inl (ar 0, 8, .inl (fun q => iz ((cpy9 (θ 5) (τ 5) 8) q))))) (x + 9) (.inl (ar 1, 500, .inl (fun q => iz ((cpy9 (θ 9) (τ 9) 500) q))))) (x + 11) (.inl (ar 0, 120, .inl (fun q => iz ((cpy9 (θ 11) (τ 11) 120) q))))) (x + 10) (.inl (ar 3, 3, .inr (.inr (.inr (.inr (fun q => if q = 2 then some p2 else (fun q => if q = 1 then some p1 else (fun q => if q = 0 then some p0 else (fun q => rfv (τ 10 q)) q) q) q))))))) (x + 1) (.inr (9, [.int (iz (θ 1 0)), .ref (x + 2), .ref (x + 3), .ref (x + 4), .ref (x + 5), .ref (x + 6), .ref (x + 7), .ref (x + 8), .int (iz (τ 1 8)), .int (iz (τ 1 9)), .int (iz (τ 1 10)), .ref (x + 9), .int (iz (τ 1 12)), .int (iz (τ 1 13)), .int (iz (τ 1 14)), .ref (x + 10), .int (iz (τ 1 16)), .ref (x + 11), .ref (x + 12), .ref (x + 18)])))) 0 rfl hu_9 tyX8 tyX8_ok nmX8 (by decide) (zg_ne (by omega) (zg_ne (by omega) (zg_ne (by omega) (zg_ne (by omega) (zg_ne (by omega) kx1))))) rfl fl_X8_78 rfl rfl (ty := tyX8 0) (by decide +kernel) rfl rfl (Nat.le_of_ble_eq_true rfl) dX8_takeAll_15 ?_
  refine hv_aload_n C 0 0 dX8_takeAll_18 rfl rfl ?_
  refine hv_aload_n C 1 1 dX8_takeAll_19 rfl rfl ?_
  refine zc_get C K (v := .int (iz (θ 1 8))) 8 rfl hu_9 (by decide) (zg_ne (by omega) (zg_ne (by omega) (zg_ne (by omega) (zg_ne (by omega) (zg_ne (by omega) (zg_ne (by omega) ky1)))))) rfl fl_X8_81 rfl dX8_takeAll_20 ?_
  refine zc_put C K (w2 := (zc_u (zc_u (zc_u (zc_u (zc_u (zc_u w1 (x + 4) (.inl (ar 0, 8, .inl (fun q => iz ((cpy9 (θ 4) (τ 4) 8) q))))) (x + 5) (.inl (ar 0, 8, .inl (fun q => iz ((cpy9 (θ 5) (τ 5) 8) q))))) (x + 9) (.inl (ar 1, 500, .inl (fun q => iz ((cpy9 (θ 9) (τ 9) 500) q))))) (x + 11) (.inl (ar 0, 120, .inl (fun q => iz ((cpy9 (θ 11) (τ 11) 120) q))))) (x + 10) (.inl (ar 3, 3, .inr (.inr (.inr (.inr (fun q => if q = 2 then some p2 else (fun q => if q = 1 then some p1 else (fun q => if q = 0 then some p0 else (fun q => rfv (τ 10 q)) q) q) q))))))) (x + 1) (.inr (9, [.int (iz (θ 1 0)), .ref (x + 2), .ref (x + 3), .ref (x + 4), .ref (x + 5), .ref (x + 6), .ref (x + 7), .ref (x + 8), .int (iz (θ 1 8)), .int (iz (τ 1 9)), .int (iz (τ 1 10)), .ref (x + 9), .int (iz (τ 1 12)), .int (iz (τ 1 13)), .int (iz (τ 1 14)), .ref (x + 10), .int (iz (τ 1 16)), .ref (x + 11), .ref (x + 12), .ref (x + 18)])))) 8 rfl hu_9 tyX8 tyX8_ok nmX8 (by decide) zg_at (by rw [zg_uu] <;> rfl) fl_X8_81 rfl rfl (ty := tyX8 8) (by decide +kernel) rfl rfl (Nat.le_of_ble_eq_true rfl) dX8_takeAll_23 ?_
  refine hv_aload_n C 0 0 dX8_takeAll_26 rfl rfl ?_
  refine hv_aload_n C 1 1 dX8_takeAll_27 rfl rfl ?_
  refine zc_get C K (v := .int (iz (θ 1 9))) 9 rfl hu_9 (by decide) (zg_ne (by omega) (zg_ne (by omega) (zg_ne (by omega) (zg_ne (by omega) (zg_ne (by omega) (zg_ne (by omega) ky1)))))) rfl fl_X8_37 rfl dX8_takeAll_28 ?_
  refine zc_put C K (w2 := (zc_u (zc_u (zc_u (zc_u (zc_u (zc_u w1 (x + 4) (.inl (ar 0, 8, .inl (fun q => iz ((cpy9 (θ 4) (τ 4) 8) q))))) (x + 5) (.inl (ar 0, 8, .inl (fun q => iz ((cpy9 (θ 5) (τ 5) 8) q))))) (x + 9) (.inl (ar 1, 500, .inl (fun q => iz ((cpy9 (θ 9) (τ 9) 500) q))))) (x + 11) (.inl (ar 0, 120, .inl (fun q => iz ((cpy9 (θ 11) (τ 11) 120) q))))) (x + 10) (.inl (ar 3, 3, .inr (.inr (.inr (.inr (fun q => if q = 2 then some p2 else (fun q => if q = 1 then some p1 else (fun q => if q = 0 then some p0 else (fun q => rfv (τ 10 q)) q) q) q))))))) (x + 1) (.inr (9, [.int (iz (θ 1 0)), .ref (x + 2), .ref (x + 3), .ref (x + 4), .ref (x + 5), .ref (x + 6), .ref (x + 7), .ref (x + 8), .int (iz (θ 1 8)), .int (iz (θ 1 9)), .int (iz (τ 1 10)), .ref (x + 9), .int (iz (τ 1 12)), .int (iz (τ 1 13)), .int (iz (τ 1 14)), .ref (x + 10), .int (iz (τ 1 16)), .ref (x + 11), .ref (x + 12), .ref (x + 18)])))) 9 rfl hu_9 tyX8 tyX8_ok nmX8 (by decide) zg_at (by rw [zg_uu] <;> rfl) fl_X8_37 rfl rfl (ty := tyX8 9) (by decide +kernel) rfl rfl (Nat.le_of_ble_eq_true rfl) dX8_takeAll_31 ?_
  refine hv_aload_n C 0 0 dX8_takeAll_34 rfl rfl ?_
  refine hv_aload_n C 1 1 dX8_takeAll_35 rfl rfl ?_
  refine zc_get C K (v := .int (iz (θ 1 10))) 10 rfl hu_9 (by decide) (zg_ne (by omega) (zg_ne (by omega) (zg_ne (by omega) (zg_ne (by omega) (zg_ne (by omega) (zg_ne (by omega) ky1)))))) rfl fl_X8_41 rfl dX8_takeAll_36 ?_
  refine zc_put C K (w2 := (zc_u (zc_u (zc_u (zc_u (zc_u (zc_u w1 (x + 4) (.inl (ar 0, 8, .inl (fun q => iz ((cpy9 (θ 4) (τ 4) 8) q))))) (x + 5) (.inl (ar 0, 8, .inl (fun q => iz ((cpy9 (θ 5) (τ 5) 8) q))))) (x + 9) (.inl (ar 1, 500, .inl (fun q => iz ((cpy9 (θ 9) (τ 9) 500) q))))) (x + 11) (.inl (ar 0, 120, .inl (fun q => iz ((cpy9 (θ 11) (τ 11) 120) q))))) (x + 10) (.inl (ar 3, 3, .inr (.inr (.inr (.inr (fun q => if q = 2 then some p2 else (fun q => if q = 1 then some p1 else (fun q => if q = 0 then some p0 else (fun q => rfv (τ 10 q)) q) q) q))))))) (x + 1) (.inr (9, [.int (iz (θ 1 0)), .ref (x + 2), .ref (x + 3), .ref (x + 4), .ref (x + 5), .ref (x + 6), .ref (x + 7), .ref (x + 8), .int (iz (θ 1 8)), .int (iz (θ 1 9)), .int (iz (θ 1 10)), .ref (x + 9), .int (iz (τ 1 12)), .int (iz (τ 1 13)), .int (iz (τ 1 14)), .ref (x + 10), .int (iz (τ 1 16)), .ref (x + 11), .ref (x + 12), .ref (x + 18)])))) 10 rfl hu_9 tyX8 tyX8_ok nmX8 (by decide) zg_at (by rw [zg_uu] <;> rfl) fl_X8_41 rfl rfl (ty := tyX8 10) (by decide +kernel) rfl rfl (Nat.le_of_ble_eq_true rfl) dX8_takeAll_39 ?_
  refine hv_aload_n C 0 0 dX8_takeAll_42 rfl rfl ?_
  refine hv_aload_n C 1 1 dX8_takeAll_43 rfl rfl ?_
  refine zc_get C K (v := .int (iz (θ 1 12))) 12 rfl hu_9 (by decide) (zg_ne (by omega) (zg_ne (by omega) (zg_ne (by omega) (zg_ne (by omega) (zg_ne (by omega) (zg_ne (by omega) ky1)))))) rfl fl_X8_84 rfl dX8_takeAll_44 ?_
  refine zc_put C K (w2 := (zc_u (zc_u (zc_u (zc_u (zc_u (zc_u w1 (x + 4) (.inl (ar 0, 8, .inl (fun q => iz ((cpy9 (θ 4) (τ 4) 8) q))))) (x + 5) (.inl (ar 0, 8, .inl (fun q => iz ((cpy9 (θ 5) (τ 5) 8) q))))) (x + 9) (.inl (ar 1, 500, .inl (fun q => iz ((cpy9 (θ 9) (τ 9) 500) q))))) (x + 11) (.inl (ar 0, 120, .inl (fun q => iz ((cpy9 (θ 11) (τ 11) 120) q))))) (x + 10) (.inl (ar 3, 3, .inr (.inr (.inr (.inr (fun q => if q = 2 then some p2 else (fun q => if q = 1 then some p1 else (fun q => if q = 0 then some p0 else (fun q => rfv (τ 10 q)) q) q) q))))))) (x + 1) (.inr (9, [.int (iz (θ 1 0)), .ref (x + 2), .ref (x + 3), .ref (x + 4), .ref (x + 5), .ref (x + 6), .ref (x + 7), .ref (x + 8), .int (iz (θ 1 8)), .int (iz (θ 1 9)), .int (iz (θ 1 10)), .ref (x + 9), .int (iz (θ 1 12)), .int (iz (τ 1 13)), .int (iz (τ 1 14)), .ref (x + 10), .int (iz (τ 1 16)), .ref (x + 11), .ref (x + 12), .ref (x + 18)])))) 12 rfl hu_9 tyX8 tyX8_ok nmX8 (by decide) zg_at (by rw [zg_uu] <;> rfl) fl_X8_84 rfl rfl (ty := tyX8 12) (by decide +kernel) rfl rfl (Nat.le_of_ble_eq_true rfl) dX8_takeAll_47 ?_
  refine hv_aload_n C 0 0 dX8_takeAll_50 rfl rfl ?_
  refine hv_aload_n C 1 1 dX8_takeAll_51 rfl rfl ?_
  refine zc_get C K (v := .int (iz (θ 1 13))) 13 rfl hu_9 (by decide) (zg_ne (by omega) (zg_ne (by omega) (zg_ne (by omega) (zg_ne (by omega) (zg_ne (by omega) (zg_ne (by omega) ky1)))))) rfl fl_X8_87 rfl dX8_takeAll_52 ?_
  refine zc_put C K (w2 := (zc_u (zc_u (zc_u (zc_u (zc_u (zc_u w1 (x + 4) (.inl (ar 0, 8, .inl (fun q => iz ((cpy9 (θ 4) (τ 4) 8) q))))) (x + 5) (.inl (ar 0, 8, .inl (fun q => iz ((cpy9 (θ 5) (τ 5) 8) q))))) (x + 9) (.inl (ar 1, 500, .inl (fun q => iz ((cpy9 (θ 9) (τ 9) 500) q))))) (x + 11) (.inl (ar 0, 120, .inl (fun q => iz ((cpy9 (θ 11) (τ 11) 120) q))))) (x + 10) (.inl (ar 3, 3, .inr (.inr (.inr (.inr (fun q => if q = 2 then some p2 else (fun q => if q = 1 then some p1 else (fun q => if q = 0 then some p0 else (fun q => rfv (τ 10 q)) q) q) q))))))) (x + 1) (.inr (9, [.int (iz (θ 1 0)), .ref (x + 2), .ref (x + 3), .ref (x + 4), .ref (x + 5), .ref (x + 6), .ref (x + 7), .ref (x + 8), .int (iz (θ 1 8)), .int (iz (θ 1 9)), .int (iz (θ 1 10)), .ref (x + 9), .int (iz (θ 1 12)), .int (iz (θ 1 13)), .int (iz (τ 1 14)), .ref (x + 10), .int (iz (τ 1 16)), .ref (x + 11), .ref (x + 12), .ref (x + 18)])))) 13 rfl hu_9 tyX8 tyX8_ok nmX8 (by decide) zg_at (by rw [zg_uu] <;> rfl) fl_X8_87 rfl rfl (ty := tyX8 13) (by decide +kernel) rfl rfl (Nat.le_of_ble_eq_true rfl) dX8_takeAll_55 ?_
  refine hv_aload_n C 0 0 dX8_takeAll_58 rfl rfl ?_
  refine hv_aload_n C 1 1 dX8_takeAll_59 rfl rfl ?_
  refine zc_get C K (v := .int (iz (θ 1 14))) 14 rfl hu_9 (by decide) (zg_ne (by omega) (zg_ne (by omega) (zg_ne (by omega) (zg_ne (by omega) (zg_ne (by omega) (zg_ne (by omega) ky1)))))) rfl fl_X8_48 rfl dX8_takeAll_60 ?_
  refine zc_put C K (w2 := (zc_u (zc_u (zc_u (zc_u (zc_u (zc_u w1 (x + 4) (.inl (ar 0, 8, .inl (fun q => iz ((cpy9 (θ 4) (τ 4) 8) q))))) (x + 5) (.inl (ar 0, 8, .inl (fun q => iz ((cpy9 (θ 5) (τ 5) 8) q))))) (x + 9) (.inl (ar 1, 500, .inl (fun q => iz ((cpy9 (θ 9) (τ 9) 500) q))))) (x + 11) (.inl (ar 0, 120, .inl (fun q => iz ((cpy9 (θ 11) (τ 11) 120) q))))) (x + 10) (.inl (ar 3, 3, .inr (.inr (.inr (.inr (fun q => if q = 2 then some p2 else (fun q => if q = 1 then some p1 else (fun q => if q = 0 then some p0 else (fun q => rfv (τ 10 q)) q) q) q))))))) (x + 1) (.inr (9, [.int (iz (θ 1 0)), .ref (x + 2), .ref (x + 3), .ref (x + 4), .ref (x + 5), .ref (x + 6), .ref (x + 7), .ref (x + 8), .int (iz (θ 1 8)), .int (iz (θ 1 9)), .int (iz (θ 1 10)), .ref (x + 9), .int (iz (θ 1 12)), .int (iz (θ 1 13)), .int (iz (θ 1 14)), .ref (x + 10), .int (iz (τ 1 16)), .ref (x + 11), .ref (x + 12), .ref (x + 18)])))) 14 rfl hu_9 tyX8 tyX8_ok nmX8 (by decide) zg_at (by rw [zg_uu] <;> rfl) fl_X8_48 rfl rfl (ty := tyX8 14) (by decide +kernel) rfl rfl (Nat.le_of_ble_eq_true rfl) dX8_takeAll_63 ?_
  refine hv_aload_n C 0 0 dX8_takeAll_66 rfl rfl ?_
  refine hv_aload_n C 1 1 dX8_takeAll_67 rfl rfl ?_
  refine zc_get C K (v := .int (iz (θ 1 16))) 16 rfl hu_9 (by decide) (zg_ne (by omega) (zg_ne (by omega) (zg_ne (by omega) (zg_ne (by omega) (zg_ne (by omega) (zg_ne (by omega) ky1)))))) rfl fl_X8_90 rfl dX8_takeAll_68 ?_
  refine zc_put C K (w2 := (zc_u (zc_u (zc_u (zc_u (zc_u (zc_u w1 (x + 4) (.inl (ar 0, 8, .inl (fun q => iz ((cpy9 (θ 4) (τ 4) 8) q))))) (x + 5) (.inl (ar 0, 8, .inl (fun q => iz ((cpy9 (θ 5) (τ 5) 8) q))))) (x + 9) (.inl (ar 1, 500, .inl (fun q => iz ((cpy9 (θ 9) (τ 9) 500) q))))) (x + 11) (.inl (ar 0, 120, .inl (fun q => iz ((cpy9 (θ 11) (τ 11) 120) q))))) (x + 10) (.inl (ar 3, 3, .inr (.inr (.inr (.inr (fun q => if q = 2 then some p2 else (fun q => if q = 1 then some p1 else (fun q => if q = 0 then some p0 else (fun q => rfv (τ 10 q)) q) q) q))))))) (x + 1) (.inr (9, [.int (iz (θ 1 0)), .ref (x + 2), .ref (x + 3), .ref (x + 4), .ref (x + 5), .ref (x + 6), .ref (x + 7), .ref (x + 8), .int (iz (θ 1 8)), .int (iz (θ 1 9)), .int (iz (θ 1 10)), .ref (x + 9), .int (iz (θ 1 12)), .int (iz (θ 1 13)), .int (iz (θ 1 14)), .ref (x + 10), .int (iz (θ 1 16)), .ref (x + 11), .ref (x + 12), .ref (x + 18)])))) 16 rfl hu_9 tyX8 tyX8_ok nmX8 (by decide) zg_at (by rw [zg_uu] <;> rfl) fl_X8_90 rfl rfl (ty := tyX8 16) (by decide +kernel) rfl rfl (Nat.le_of_ble_eq_true rfl) dX8_takeAll_71 ?_
  refine hv_aload_n C 0 0 dX8_takeAll_74 rfl rfl ?_
  refine zc_get C K (v := .ref (x + 12)) 18 rfl hu_9 (by decide) zg_at rfl fl_X8_63 rfl dX8_takeAll_75 ?_
  refine hv_aload_n C 1 1 dX8_takeAll_78 rfl rfl ?_
  refine zc_get C K (v := .ref (y + 12)) 18 rfl hu_9 (by decide) (zg_ne (by omega) (zg_ne (by omega) (zg_ne (by omega) (zg_ne (by omega) (zg_ne (by omega) (zg_ne (by omega) ky1)))))) rfl fl_X8_63 rfl dX8_takeAll_79 ?_
  refine zg_callV [.ref (y + 12)] [] C K (zg_ne (by omega) (zg_ne (by omega) (zg_ne (by omega) (zg_ne (by omega) (zg_ne (by omega) (zg_ne (by omega) kx12)))))) rfl (g_ev_take l τ θ hxy (zg_ne (by omega) (zg_ne (by omega) (zg_ne (by omega) (zg_ne (by omega) (zg_ne (by omega) (zg_ne (by omega) kx12)))))) (zg_ne (by omega) (zg_ne (by omega) (zg_ne (by omega) (zg_ne (by omega) (zg_ne (by omega) (zg_ne (by omega) kx13)))))) (zg_ne (by omega) (zg_ne (by omega) (zg_ne (by omega) (zg_ne (by omega) (zg_ne (by omega) (zg_ne (by omega) kx14)))))) (zg_ne (by omega) (zg_ne (by omega) (zg_ne (by omega) (zg_ne (by omega) (zg_ne (by omega) (zg_ne (by omega) ky12)))))) (zg_ne (by omega) (zg_ne (by omega) (zg_ne (by omega) (zg_ne (by omega) (zg_ne (by omega) (zg_ne (by omega) ky13)))))) (zg_ne (by omega) (zg_ne (by omega) (zg_ne (by omega) (zg_ne (by omega) (zg_ne (by omega) (zg_ne (by omega) ky14))))))) ck_X8_93 ⟨by decide, by decide⟩ ⟨by decide, by decide⟩ rfl (Nat.le_of_ble_eq_true rfl) dX8_takeAll_82 (fun r' w' n' h => h) ?_
  skip
  exact zc_vret C hr hlk ⟨rfl, w1, E, hS, fun a ha => by simp only [zc_u]; repeat rw [if_neg (by omega)], fun j hj => by simp only [zc_u]; repeat rw [if_neg (by omega)], (zg_ne (by omega) (zg_ne (by omega) (zg_ne (by omega) zg_at))), (zg_ne (by omega) (zg_ne (by omega) (zg_ne (by omega) (zg_ne (by omega) (zg_ne (by omega) (zg_ne (by omega) (zg_ne (by omega) (zg_ne (by omega) zg_at)))))))), (zg_ne (by omega) (zg_ne (by omega) (zg_ne (by omega) (zg_ne (by omega) (zg_ne (by omega) (zg_ne (by omega) (zg_ne (by omega) zg_at))))))), (zg_ne (by omega) (zg_ne (by omega) (zg_ne (by omega) (zg_ne (by omega) (zg_ne (by omega) (zg_ne (by omega) zg_at)))))), ((zg_ne (by omega) (zg_ne (by omega) (zg_ne (by omega) (zg_ne (by omega) zg_at)))).trans (by rw [tk_10 hc0 hc1 hc2])), (zg_ne (by omega) (zg_ne (by omega) (zg_ne (by omega) (zg_ne (by omega) (zg_ne (by omega) zg_at))))), (zg_ne (by omega) (zg_ne (by omega) zg_at)), (zg_ne (by omega) zg_at), zg_at⟩ dX8_takeAll_85
