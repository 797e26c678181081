/-- what the memberships and the breaks hold -/
def mI (A : Nat → Int) : Prop := ∀ k : Nat, (k : Int) < A 3 → (0 ≤ A (120 + 4 * k + 0) ∧ A (120 + 4 * k + 0) ≤ 7) ∧ (-1 ≤ A (120 + 4 * k + 1) ∧ A (120 + 4 * k + 1) ≤ 2) ∧ (0 ≤ A (120 + 4 * k + 2) ∧ A (120 + 4 * k + 2) ≤ 199) ∧ (0 ≤ A (120 + 4 * k + 3) ∧ A (120 + 4 * k + 3) ≤ 199)
def bI (A : Nat → Int) : Prop := ∀ k : Nat, (k : Int) < A 5 → (-1 ≤ A (480 + 6 * k + 0) ∧ A (480 + 6 * k + 0) ≤ 7) ∧ (0 ≤ A (480 + 6 * k + 1) ∧ A (480 + 6 * k + 1) ≤ 199) ∧ (0 ≤ A (480 + 6 * k + 2) ∧ A (480 + 6 * k + 2) ≤ 47) ∧ (0 ≤ A (480 + 6 * k + 3) ∧ A (480 + 6 * k + 3) ≤ 47) ∧ (0 ≤ A (480 + 6 * k + 4) ∧ A (480 + 6 * k + 4) ≤ 9) ∧ (0 ≤ A (480 + 6 * k + 5) ∧ A (480 + 6 * k + 5) ≤ 199)

theorem dX11_within_0 : decode cX11_within 0 = .ok (.iload_n 0, 1) := by decide +kernel
theorem dX11_within_1 : decode cX11_within 1 = .ok (.iload_n 1, 1) := by decide +kernel
theorem dX11_within_2 : decode cX11_within 2 = .ok (.if_icmp .lt 12, 3) := by decide +kernel
theorem dX11_within_5 : decode cX11_within 5 = .ok (.iload_n 0, 1) := by decide +kernel
theorem dX11_within_6 : decode cX11_within 6 = .ok (.iload_n 2, 1) := by decide +kernel
theorem dX11_within_7 : decode cX11_within 7 = .ok (.if_icmp .gt 7, 3) := by decide +kernel
theorem dX11_within_10 : decode cX11_within 10 = .ok (.iconst 1, 1) := by decide +kernel
theorem dX11_within_11 : decode cX11_within 11 = .ok (.goto 4, 3) := by decide +kernel
theorem dX11_within_14 : decode cX11_within 14 = .ok (.iconst 0, 1) := by decide +kernel
theorem dX11_within_15 : decode cX11_within 15 = .ok (.ireturn, 1) := by decide +kernel
set_option maxRecDepth 100000 in
set_option maxHeartbeats 4000000 in
theorem k_X11_within (l : Launch) {D : va_G} {ar : Nat → ClassId} {B : Nat → Prop} {b n : Nat} {w0 : zcW}  (τ : Nat → Nat → Int) (v : Int) (lo9 : Int) (hi9 : Int) (r_v : inI v) (r_lo9 : inI lo9) (r_hi9 : inI hi9) : zt_M l D ar B b w0 n yX11_within cX11_within 3 (some .boolean) 0 0 [.int (iz v), .int (iz lo9), .int (iz hi9)] τ (some (.int (iz (xb (decide (lo9 ≤ v ∧ v ≤ hi9)))))) (τ) := by
  refine zc_start (own := RX11) (by decide +kernel) rfl (Nat.le_of_ble_eq_true rfl) ?_
  intro p e s m args below meth c C K hr hlk hnam
  refine hv_iload_n C 0 0 dX11_within_0 rfl rfl ?_
  refine hv_iload_n C 1 1 dX11_within_1 rfl rfl ?_
  refine hv_icmp_lt C 14 dX11_within_2 (by decide) (by omega) (by omega) (fun h2 => ?_) (fun h2 => ?_)
  · skip
    refine hv_iconst C dX11_within_14 ?_
    exact zt_zret C hr hlk ((xb_f (decide_eq_false (by omega))).symm) rfl dX11_within_15
  · skip
    refine hv_iload_n C 0 0 dX11_within_5 rfl rfl ?_
    refine hv_iload_n C 2 2 dX11_within_6 rfl rfl ?_
    refine hv_icmp_gt C 14 dX11_within_7 (by decide) (by omega) (by omega) (fun h7 => ?_) (fun h7 => ?_)
    · skip
      refine hv_iconst C dX11_within_14 ?_
      exact zt_zret C hr hlk ((xb_f (decide_eq_false (by omega))).symm) rfl dX11_within_15
    · skip
      refine hv_iconst C dX11_within_10 ?_
      refine hv_goto C 15 dX11_within_11 (by decide) ?_
      exact zt_zret C hr hlk ((xb_t (decide_eq_true (by omega))).symm) rfl dX11_within_15
theorem dX11_isDay_0 : decode cX11_isDay 0 = .ok (.iload_n 0, 1) := by decide +kernel
theorem dX11_isDay_1 : decode cX11_isDay 1 = .ok (.iconst 0, 1) := by decide +kernel
theorem dX11_isDay_2 : decode cX11_isDay 2 = .ok (.sipush 199, 3) := by decide +kernel
theorem dX11_isDay_5 : decode cX11_isDay 5 = .ok (.invokestatic 62, 3) := by decide +kernel
theorem dX11_isDay_8 : decode cX11_isDay 8 = .ok (.ireturn, 1) := by decide +kernel
theorem ck_X11_62 : zcS RX11 yX11_within cX11_within 3 (some .boolean) 62 3 := ⟨hk_tq2 109 (by decide +kernel) (by decide +kernel), hk_tq2 107 (by decide +kernel) (by decide +kernel), hk_tq1 1 (by decide +kernel) (by decide +kernel), ⟨by decide, by decide, by decide +kernel⟩, hk_tq2 108 (by decide +kernel) (by decide +kernel)⟩
set_option maxRecDepth 100000 in
set_option maxHeartbeats 4000000 in
theorem k_X11_isDay (l : Launch) {D : va_G} {ar : Nat → ClassId} {B : Nat → Prop} {b n : Nat} {w0 : zcW}  (τ : Nat → Nat → Int) (v : Int) (r_v : inI v) : zt_M l D ar B b w0 n yX11_isDay cX11_isDay 1 (some .boolean) 1 22 [.int (iz v)] τ (some (.int (iz (xb (decide (0 ≤ v ∧ v ≤ 199)))))) (τ) := by
  refine zc_start (own := RX11) (by decide +kernel) rfl (Nat.le_of_ble_eq_true rfl) ?_
  intro p e s m args below meth c C K hr hlk hnam
  refine hv_iload_n C 0 0 dX11_isDay_0 rfl rfl ?_
  refine hv_iconst C dX11_isDay_1 ?_
  refine hv_sipush C dX11_isDay_2 (by decide) ?_
  refine zt_callS [.int (iz v), .int (iz 0), .int (iz 199)] [] C K (k_X11_within l  τ v 0 199 (by omega) (by omega) (by omega)) ck_X11_62 (by decide) ⟨Nat.zero_le _, Nat.zero_le _⟩ rfl (Nat.le_of_ble_eq_true rfl) dX11_isDay_5 ?_
  refine hv_as (xb (decide (0 ≤ v ∧ v ≤ 199))) rfl ?_
  exact zt_zret C hr hlk (rfl) rfl dX11_isDay_8
theorem dX11_isSlot_0 : decode cX11_isSlot 0 = .ok (.iload_n 0, 1) := by decide +kernel
theorem dX11_isSlot_1 : decode cX11_isSlot 1 = .ok (.iconst 0, 1) := by decide +kernel
theorem dX11_isSlot_2 : decode cX11_isSlot 2 = .ok (.bipush 47, 2) := by decide +kernel
theorem dX11_isSlot_4 : decode cX11_isSlot 4 = .ok (.invokestatic 62, 3) := by decide +kernel
theorem dX11_isSlot_7 : decode cX11_isSlot 7 = .ok (.ireturn, 1) := by decide +kernel
set_option maxRecDepth 100000 in
set_option maxHeartbeats 4000000 in
theorem k_X11_isSlot (l : Launch) {D : va_G} {ar : Nat → ClassId} {B : Nat → Prop} {b n : Nat} {w0 : zcW}  (τ : Nat → Nat → Int) (v : Int) (r_v : inI v) : zt_M l D ar B b w0 n yX11_isSlot cX11_isSlot 1 (some .boolean) 1 22 [.int (iz v)] τ (some (.int (iz (xb (decide (0 ≤ v ∧ v ≤ 47)))))) (τ) := by
  refine zc_start (own := RX11) (by decide +kernel) rfl (Nat.le_of_ble_eq_true rfl) ?_
  intro p e s m args below meth c C K hr hlk hnam
  refine hv_iload_n C 0 0 dX11_isSlot_0 rfl rfl ?_
  refine hv_iconst C dX11_isSlot_1 ?_
  refine hv_bipush C dX11_isSlot_2 (by decide) ?_
  refine zt_callS [.int (iz v), .int (iz 0), .int (iz 47)] [] C K (k_X11_within l  τ v 0 47 (by omega) (by omega) (by omega)) ck_X11_62 (by decide) ⟨Nat.zero_le _, Nat.zero_le _⟩ rfl (Nat.le_of_ble_eq_true rfl) dX11_isSlot_4 ?_
  refine hv_as (xb (decide (0 ≤ v ∧ v ≤ 47))) rfl ?_
  exact zt_zret C hr hlk (rfl) rfl dX11_isSlot_7
theorem dX11_isPlace_0 : decode cX11_isPlace 0 = .ok (.iload_n 0, 1) := by decide +kernel
theorem dX11_isPlace_1 : decode cX11_isPlace 1 = .ok (.iconst 0, 1) := by decide +kernel
theorem dX11_isPlace_2 : decode cX11_isPlace 2 = .ok (.sipush 9599, 3) := by decide +kernel
theorem dX11_isPlace_5 : decode cX11_isPlace 5 = .ok (.invokestatic 62, 3) := by decide +kernel
theorem dX11_isPlace_8 : decode cX11_isPlace 8 = .ok (.ireturn, 1) := by decide +kernel
set_option maxRecDepth 100000 in
set_option maxHeartbeats 4000000 in
theorem k_X11_isPlace (l : Launch) {D : va_G} {ar : Nat → ClassId} {B : Nat → Prop} {b n : Nat} {w0 : zcW}  (τ : Nat → Nat → Int) (v : Int) (r_v : inI v) : zt_M l D ar B b w0 n yX11_isPlace cX11_isPlace 1 (some .boolean) 1 22 [.int (iz v)] τ (some (.int (iz (xb (decide (0 ≤ v ∧ v ≤ 9599)))))) (τ) := by
  refine zc_start (own := RX11) (by decide +kernel) rfl (Nat.le_of_ble_eq_true rfl) ?_
  intro p e s m args below meth c C K hr hlk hnam
  refine hv_iload_n C 0 0 dX11_isPlace_0 rfl rfl ?_
  refine hv_iconst C dX11_isPlace_1 ?_
  refine hv_sipush C dX11_isPlace_2 (by decide) ?_
  refine zt_callS [.int (iz v), .int (iz 0), .int (iz 9599)] [] C K (k_X11_within l  τ v 0 9599 (by omega) (by omega) (by omega)) ck_X11_62 (by decide) ⟨Nat.zero_le _, Nat.zero_le _⟩ rfl (Nat.le_of_ble_eq_true rfl) dX11_isPlace_5 ?_
  refine hv_as (xb (decide (0 ≤ v ∧ v ≤ 9599))) rfl ?_
  exact zt_zret C hr hlk (rfl) rfl dX11_isPlace_8
theorem dX11_isZone_0 : decode cX11_isZone 0 = .ok (.iload_n 0, 1) := by decide +kernel
theorem dX11_isZone_1 : decode cX11_isZone 1 = .ok (.iconst 0, 1) := by decide +kernel
theorem dX11_isZone_2 : decode cX11_isZone 2 = .ok (.iconst 3, 1) := by decide +kernel
theorem dX11_isZone_3 : decode cX11_isZone 3 = .ok (.invokestatic 62, 3) := by decide +kernel
theorem dX11_isZone_6 : decode cX11_isZone 6 = .ok (.ireturn, 1) := by decide +kernel
set_option maxRecDepth 100000 in
set_option maxHeartbeats 4000000 in
theorem k_X11_isZone (l : Launch) {D : va_G} {ar : Nat → ClassId} {B : Nat → Prop} {b n : Nat} {w0 : zcW}  (τ : Nat → Nat → Int) (v : Int) (r_v : inI v) : zt_M l D ar B b w0 n yX11_isZone cX11_isZone 1 (some .boolean) 1 22 [.int (iz v)] τ (some (.int (iz (xb (decide (0 ≤ v ∧ v ≤ 3)))))) (τ) := by
  refine zc_start (own := RX11) (by decide +kernel) rfl (Nat.le_of_ble_eq_true rfl) ?_
  intro p e s m args below meth c C K hr hlk hnam
  refine hv_iload_n C 0 0 dX11_isZone_0 rfl rfl ?_
  refine hv_iconst C dX11_isZone_1 ?_
  refine hv_iconst C dX11_isZone_2 ?_
  refine zt_callS [.int (iz v), .int (iz 0), .int (iz 3)] [] C K (k_X11_within l  τ v 0 3 (by omega) (by omega) (by omega)) ck_X11_62 (by decide) ⟨Nat.zero_le _, Nat.zero_le _⟩ rfl (Nat.le_of_ble_eq_true rfl) dX11_isZone_3 ?_
  refine hv_as (xb (decide (0 ≤ v ∧ v ≤ 3))) rfl ?_
  exact zt_zret C hr hlk (rfl) rfl dX11_isZone_6
theorem dX11_isNetwork_0 : decode cX11_isNetwork 0 = .ok (.iload_n 0, 1) := by decide +kernel
theorem dX11_isNetwork_1 : decode cX11_isNetwork 1 = .ok (.iconst 0, 1) := by decide +kernel
theorem dX11_isNetwork_2 : decode cX11_isNetwork 2 = .ok (.iconst 2, 1) := by decide +kernel
theorem dX11_isNetwork_3 : decode cX11_isNetwork 3 = .ok (.invokestatic 62, 3) := by decide +kernel
theorem dX11_isNetwork_6 : decode cX11_isNetwork 6 = .ok (.ireturn, 1) := by decide +kernel
set_option maxRecDepth 100000 in
set_option maxHeartbeats 4000000 in
theorem k_X11_isNetwork (l : Launch) {D : va_G} {ar : Nat → ClassId} {B : Nat → Prop} {b n : Nat} {w0 : zcW}  (τ : Nat → Nat → Int) (v : Int) (r_v : inI v) : zt_M l D ar B b w0 n yX11_isNetwork cX11_isNetwork 1 (some .boolean) 1 22 [.int (iz v)] τ (some (.int (iz (xb (decide (0 ≤ v ∧ v ≤ 2)))))) (τ) := by
  refine zc_start (own := RX11) (by decide +kernel) rfl (Nat.le_of_ble_eq_true rfl) ?_
  intro p e s m args below meth c C K hr hlk hnam
  refine hv_iload_n C 0 0 dX11_isNetwork_0 rfl rfl ?_
  refine hv_iconst C dX11_isNetwork_1 ?_
  refine hv_iconst C dX11_isNetwork_2 ?_
  refine zt_callS [.int (iz v), .int (iz 0), .int (iz 2)] [] C K (k_X11_within l  τ v 0 2 (by omega) (by omega) (by omega)) ck_X11_62 (by decide) ⟨Nat.zero_le _, Nat.zero_le _⟩ rfl (Nat.le_of_ble_eq_true rfl) dX11_isNetwork_3 ?_
  refine hv_as (xb (decide (0 ≤ v ∧ v ≤ 2))) rfl ?_
  exact zt_zret C hr hlk (rfl) rfl dX11_isNetwork_6
theorem dX11_isSort_0 : decode cX11_isSort 0 = .ok (.iload_n 0, 1) := by decide +kernel
theorem dX11_isSort_1 : decode cX11_isSort 1 = .ok (.iconst 0, 1) := by decide +kernel
theorem dX11_isSort_2 : decode cX11_isSort 2 = .ok (.bipush 7, 2) := by decide +kernel
theorem dX11_isSort_4 : decode cX11_isSort 4 = .ok (.invokestatic 62, 3) := by decide +kernel
theorem dX11_isSort_7 : decode cX11_isSort 7 = .ok (.ireturn, 1) := by decide +kernel
set_option maxRecDepth 100000 in
set_option maxHeartbeats 4000000 in
theorem k_X11_isSort (l : Launch) {D : va_G} {ar : Nat → ClassId} {B : Nat → Prop} {b n : Nat} {w0 : zcW}  (τ : Nat → Nat → Int) (v : Int) (r_v : inI v) : zt_M l D ar B b w0 n yX11_isSort cX11_isSort 1 (some .boolean) 1 22 [.int (iz v)] τ (some (.int (iz (xb (decide (0 ≤ v ∧ v ≤ 7)))))) (τ) := by
  refine zc_start (own := RX11) (by decide +kernel) rfl (Nat.le_of_ble_eq_true rfl) ?_
  intro p e s m args below meth c C K hr hlk hnam
  refine hv_iload_n C 0 0 dX11_isSort_0 rfl rfl ?_
  refine hv_iconst C dX11_isSort_1 ?_
  refine hv_bipush C dX11_isSort_2 (by decide) ?_
  refine zt_callS [.int (iz v), .int (iz 0), .int (iz 7)] [] C K (k_X11_within l  τ v 0 7 (by omega) (by omega) (by omega)) ck_X11_62 (by decide) ⟨Nat.zero_le _, Nat.zero_le _⟩ rfl (Nat.le_of_ble_eq_true rfl) dX11_isSort_4 ?_
  refine hv_as (xb (decide (0 ≤ v ∧ v ≤ 7))) rfl ?_
  exact zt_zret C hr hlk (rfl) rfl dX11_isSort_7
theorem dX3_isOnAt_0 : decode cX3_isOnAt 0 = .ok (.iload_n 1, 1) := by decide +kernel
theorem dX3_isOnAt_1 : decode cX3_isOnAt 1 = .ok (.aload_n 0, 1) := by decide +kernel
theorem dX3_isOnAt_2 : decode cX3_isOnAt 2 = .ok (.getfield 13, 3) := by decide +kernel
theorem dX3_isOnAt_5 : decode cX3_isOnAt 5 = .ok (.if_icmp .lt 20, 3) := by decide +kernel
theorem dX3_isOnAt_8 : decode cX3_isOnAt 8 = .ok (.iload_n 1, 1) := by decide +kernel
theorem dX3_isOnAt_9 : decode cX3_isOnAt 9 = .ok (.aload_n 0, 1) := by decide +kernel
theorem dX3_isOnAt_10 : decode cX3_isOnAt 10 = .ok (.getfield 13, 3) := by decide +kernel
theorem dX3_isOnAt_13 : decode cX3_isOnAt 13 = .ok (.aload_n 0, 1) := by decide +kernel
theorem dX3_isOnAt_14 : decode cX3_isOnAt 14 = .ok (.getfield 16, 3) := by decide +kernel
theorem dX3_isOnAt_17 : decode cX3_isOnAt 17 = .ok (.iadd, 1) := by decide +kernel
theorem dX3_isOnAt_18 : decode cX3_isOnAt 18 = .ok (.if_icmp .ge 7, 3) := by decide +kernel
theorem dX3_isOnAt_21 : decode cX3_isOnAt 21 = .ok (.iconst 1, 1) := by decide +kernel
theorem dX3_isOnAt_22 : decode cX3_isOnAt 22 = .ok (.goto 4, 3) := by decide +kernel
theorem dX3_isOnAt_25 : decode cX3_isOnAt 25 = .ok (.iconst 0, 1) := by decide +kernel
theorem dX3_isOnAt_26 : decode cX3_isOnAt 26 = .ok (.ireturn, 1) := by decide +kernel
theorem fl_X3_13 : Cond.fieldLink RX3 13 "HookUps$Hour" (TX3 1).2.1 (TX3 1).2.2.1 ∈ hk_tb := hk_tq3 96 (by decide +kernel) (by decide +kernel)
theorem fl_X3_16 : Cond.fieldLink RX3 16 "HookUps$Hour" (TX3 2).2.1 (TX3 2).2.2.1 ∈ hk_tb := hk_tq3 99 (by decide +kernel) (by decide +kernel)
set_option maxRecDepth 100000 in
set_option maxHeartbeats 4000000 in
theorem k_X3_isOnAt (l : Launch) {D : va_G} {ar : Nat → ClassId} {B : Nat → Prop} {b n : Nat} {w0 : zcW} (A : Nat → Int) (i9 p9 : Nat) (τ : Nat → Nat → Int) (q : Int) (hA : ∀ i, inI (A i)) (ho : ob9 b w0 p9 4 (fHour A i9)) (hh : hi A) (hx : (i9 : Int) < A 4) (r_q : inI q) : zt_M l D ar B b w0 n yX3_isOnAt cX3_isOnAt 2 (some .boolean) 0 0 [.ref p9, .int (iz q)] τ (some (.int (iz (xb (decide (48 * A (280 + 8 * i9 + 1) + A (280 + 8 * i9 + 2) ≤ q ∧ q < 48 * A (280 + 8 * i9 + 1) + A (280 + 8 * i9 + 2) + A (280 + 8 * i9 + 3))))))) (τ) := by
  refine zc_start (own := RX3) (by decide +kernel) rfl (Nat.le_of_ble_eq_true rfl) ?_
  intro p e s m args below meth c C K hr hlk hnam
  have hhk := hh i9 hx
  refine hv_iload_n C 1 1 dX3_isOnAt_0 rfl rfl ?_
  refine hv_aload_n C 0 0 dX3_isOnAt_1 rfl rfl ?_
  refine zc_get C K (v := .int (iz ((48 * (A (280 + 8 * i9 + 1))) + (A (280 + 8 * i9 + 2))))) 1 rfl hu_4 (by decide) (cw_ob ho) rfl fl_X3_13 rfl dX3_isOnAt_2 ?_
  refine hv_icmp_lt C 25 dX3_isOnAt_5 (by decide) (by omega) (by omega) (fun h5 => ?_) (fun h5 => ?_)
  · skip
    refine hv_iconst C dX3_isOnAt_25 ?_
    exact zt_zret C hr hlk ((xb_f (decide_eq_false (by omega))).symm) rfl dX3_isOnAt_26
  · skip
    refine hv_iload_n C 1 1 dX3_isOnAt_8 rfl rfl ?_
    refine hv_aload_n C 0 0 dX3_isOnAt_9 rfl rfl ?_
    refine zc_get C K (v := .int (iz ((48 * (A (280 + 8 * i9 + 1))) + (A (280 + 8 * i9 + 2))))) 1 rfl hu_4 (by decide) (cw_ob ho) rfl fl_X3_13 rfl dX3_isOnAt_10 ?_
    refine hv_aload_n C 0 0 dX3_isOnAt_13 rfl rfl ?_
    refine zc_get C K (v := .int (iz (A (280 + 8 * i9 + 3)))) 2 rfl hu_4 (by decide) (cw_ob ho) rfl fl_X3_16 rfl dX3_isOnAt_14 ?_
    refine hv_nm (fun x1 ex1 => ?_)
    have rx1 : inI x1 := by rw [ex1]; exact (hA _)
    refine hv_iadd C dX3_isOnAt_17 ?_
    refine hv_icmp_ge C 25 dX3_isOnAt_18 (by decide) (by omega) (by omega) (fun h18 => ?_) (fun h18 => ?_)
    · skip
      refine hv_iconst C dX3_isOnAt_25 ?_
      exact zt_zret C hr hlk ((xb_f (decide_eq_false (by omega))).symm) rfl dX3_isOnAt_26
    · skip
      refine hv_iconst C dX3_isOnAt_21 ?_
      refine hv_goto C 26 dX3_isOnAt_22 (by decide) ?_
      exact zt_zret C hr hlk ((xb_t (decide_eq_true (by omega))).symm) rfl dX3_isOnAt_26
theorem dX0_covers_0 : decode cX0_covers 0 = .ok (.aload_n 0, 1) := by decide +kernel
theorem dX0_covers_1 : decode cX0_covers 1 = .ok (.getfield 9, 3) := by decide +kernel
theorem dX0_covers_4 : decode cX0_covers 4 = .ok (.iconst (-1), 1) := by decide +kernel
theorem dX0_covers_5 : decode cX0_covers 5 = .ok (.if_icmp .eq 11, 3) := by decide +kernel
theorem dX0_covers_8 : decode cX0_covers 8 = .ok (.aload_n 0, 1) := by decide +kernel
theorem dX0_covers_9 : decode cX0_covers 9 = .ok (.getfield 9, 3) := by decide +kernel
theorem dX0_covers_12 : decode cX0_covers 12 = .ok (.iload_n 1, 1) := by decide +kernel
theorem dX0_covers_13 : decode cX0_covers 13 = .ok (.if_icmp .ne 23, 3) := by decide +kernel
theorem dX0_covers_16 : decode cX0_covers 16 = .ok (.iload_n 2, 1) := by decide +kernel
theorem dX0_covers_17 : decode cX0_covers 17 = .ok (.aload_n 0, 1) := by decide +kernel
theorem dX0_covers_18 : decode cX0_covers 18 = .ok (.getfield 15, 3) := by decide +kernel
theorem dX0_covers_21 : decode cX0_covers 21 = .ok (.if_icmp .lt 15, 3) := by decide +kernel
theorem dX0_covers_24 : decode cX0_covers 24 = .ok (.iload_n 2, 1) := by decide +kernel
theorem dX0_covers_25 : decode cX0_covers 25 = .ok (.aload_n 0, 1) := by decide +kernel
theorem dX0_covers_26 : decode cX0_covers 26 = .ok (.getfield 18, 3) := by decide +kernel
theorem dX0_covers_29 : decode cX0_covers 29 = .ok (.if_icmp .gt 7, 3) := by decide +kernel
theorem dX0_covers_32 : decode cX0_covers 32 = .ok (.iconst 1, 1) := by decide +kernel
theorem dX0_covers_33 : decode cX0_covers 33 = .ok (.goto 4, 3) := by decide +kernel
theorem dX0_covers_36 : decode cX0_covers 36 = .ok (.iconst 0, 1) := by decide +kernel
theorem dX0_covers_37 : decode cX0_covers 37 = .ok (.ireturn, 1) := by decide +kernel
theorem fl_X0_9 : Cond.fieldLink RX0 9 "HookUps$Break" (TX0 0).2.1 (TX0 0).2.2.1 ∈ hk_tb := hk_tq3 140 (by decide +kernel) (by decide +kernel)
theorem fl_X0_15 : Cond.fieldLink RX0 15 "HookUps$Break" (TX0 1).2.1 (TX0 1).2.2.1 ∈ hk_tb := hk_tq3 141 (by decide +kernel) (by decide +kernel)
theorem fl_X0_18 : Cond.fieldLink RX0 18 "HookUps$Break" (TX0 2).2.1 (TX0 2).2.2.1 ∈ hk_tb := hk_tq3 142 (by decide +kernel) (by decide +kernel)
set_option maxRecDepth 100000 in
set_option maxHeartbeats 4000000 in
theorem k_X0_covers (l : Launch) {D : va_G} {ar : Nat → ClassId} {B : Nat → Prop} {b n : Nat} {w0 : zcW} (A : Nat → Int) (i9 p9 : Nat) (τ : Nat → Nat → Int) (st : Int) (q : Int) (hA : ∀ i, inI (A i)) (ho : ob9 b w0 p9 1 (fBrk A i9)) (hb : bI A) (hx : (i9 : Int) < A 5) (r_st : inI st) (r_q : inI q) : zt_M l D ar B b w0 n yX0_covers cX0_covers 3 (some .boolean) 0 0 [.ref p9, .int (iz st), .int (iz q)] τ (some (.int (iz (xb (decide ((A (480 + 6 * i9 + 0) = -1 ∨ A (480 + 6 * i9 + 0) = st) ∧ 48 * A (480 + 6 * i9 + 1) + A (480 + 6 * i9 + 2) ≤ q ∧ q ≤ 48 * A (480 + 6 * i9 + 1) + A (480 + 6 * i9 + 3))))))) (τ) := by
  refine zc_start (own := RX0) (by decide +kernel) rfl (Nat.le_of_ble_eq_true rfl) ?_
  intro p e s m args below meth c C K hr hlk hnam
  have hbk := hb i9 hx
  refine hv_aload_n C 0 0 dX0_covers_0 rfl rfl ?_
  refine zc_get C K (v := .int (iz (A (480 + 6 * i9 + 0)))) 0 rfl hu_1 (by decide) (cw_ob ho) rfl fl_X0_9 rfl dX0_covers_1 ?_
  refine hv_nm (fun x1 ex1 => ?_)
  have rx1 : inI x1 := by rw [ex1]; exact (hA _)
  refine hv_iconst C dX0_covers_4 ?_
  refine hv_icmp_eq C 16 dX0_covers_5 (by decide) (by omega) (by omega) (fun h5 => ?_) (fun h5 => ?_)
  · skip
    refine hv_iload_n C 2 2 dX0_covers_16 rfl rfl ?_
    refine hv_aload_n C 0 0 dX0_covers_17 rfl rfl ?_
    refine zc_get C K (v := .int (iz ((48 * (A (480 + 6 * i9 + 1))) + (A (480 + 6 * i9 + 2))))) 1 rfl hu_1 (by decide) (cw_ob ho) rfl fl_X0_15 rfl dX0_covers_18 ?_
    refine hv_icmp_lt C 36 dX0_covers_21 (by decide) (by omega) (by omega) (fun h21 => ?_) (fun h21 => ?_)
    · skip
      refine hv_iconst C dX0_covers_36 ?_
      exact zt_zret C hr hlk ((xb_f (decide_eq_false (by omega))).symm) rfl dX0_covers_37
    · skip
      refine hv_iload_n C 2 2 dX0_covers_24 rfl rfl ?_
      refine hv_aload_n C 0 0 dX0_covers_25 rfl rfl ?_
      refine zc_get C K (v := .int (iz ((48 * (A (480 + 6 * i9 + 1))) + (A (480 + 6 * i9 + 3))))) 2 rfl hu_1 (by decide) (cw_ob ho) rfl fl_X0_18 rfl dX0_covers_26 ?_
      refine hv_icmp_gt C 36 dX0_covers_29 (by decide) (by omega) (by omega) (fun h29 => ?_) (fun h29 => ?_)
      · skip
        refine hv_iconst C dX0_covers_36 ?_
        exact zt_zret C hr hlk ((xb_f (decide_eq_false (by omega))).symm) rfl dX0_covers_37
      · skip
        refine hv_iconst C dX0_covers_32 ?_
        refine hv_goto C 37 dX0_covers_33 (by decide) ?_
        exact zt_zret C hr hlk ((xb_t (decide_eq_true (by omega))).symm) rfl dX0_covers_37
  · skip
    refine hv_aload_n C 0 0 dX0_covers_8 rfl rfl ?_
    refine zc_get C K (v := .int (iz (A (480 + 6 * i9 + 0)))) 0 rfl hu_1 (by decide) (cw_ob ho) rfl fl_X0_9 rfl dX0_covers_9 ?_
    refine hv_nm (fun x2 ex2 => ?_)
    have rx2 : inI x2 := by rw [ex2]; exact (hA _)
    refine hv_iload_n C 1 1 dX0_covers_12 rfl rfl ?_
    refine hv_icmp_ne C 36 dX0_covers_13 (by decide) (by omega) (by omega) (fun h13 => ?_) (fun h13 => ?_)
    · skip
      refine hv_iconst C dX0_covers_36 ?_
      exact zt_zret C hr hlk ((xb_f (decide_eq_false (by omega))).symm) rfl dX0_covers_37
    · skip
      refine hv_iload_n C 2 2 dX0_covers_16 rfl rfl ?_
      refine hv_aload_n C 0 0 dX0_covers_17 rfl rfl ?_
      refine zc_get C K (v := .int (iz ((48 * (A (480 + 6 * i9 + 1))) + (A (480 + 6 * i9 + 2))))) 1 rfl hu_1 (by decide) (cw_ob ho) rfl fl_X0_15 rfl dX0_covers_18 ?_
      refine hv_icmp_lt C 36 dX0_covers_21 (by decide) (by omega) (by omega) (fun h21 => ?_) (fun h21 => ?_)
      · skip
        refine hv_iconst C dX0_covers_36 ?_
        exact zt_zret C hr hlk ((xb_f (decide_eq_false (by omega))).symm) rfl dX0_covers_37
      · skip
        refine hv_iload_n C 2 2 dX0_covers_24 rfl rfl ?_
        refine hv_aload_n C 0 0 dX0_covers_25 rfl rfl ?_
        refine zc_get C K (v := .int (iz ((48 * (A (480 + 6 * i9 + 1))) + (A (480 + 6 * i9 + 3))))) 2 rfl hu_1 (by decide) (cw_ob ho) rfl fl_X0_18 rfl dX0_covers_26 ?_
        refine hv_icmp_gt C 36 dX0_covers_29 (by decide) (by omega) (by omega) (fun h29 => ?_) (fun h29 => ?_)
        · skip
          refine hv_iconst C dX0_covers_36 ?_
          exact zt_zret C hr hlk ((xb_f (decide_eq_false (by omega))).symm) rfl dX0_covers_37
        · skip
          refine hv_iconst C dX0_covers_32 ?_
          refine hv_goto C 37 dX0_covers_33 (by decide) ?_
          exact zt_zret C hr hlk ((xb_t (decide_eq_true (by omega))).symm) rfl dX0_covers_37
theorem dX8_isSeen_0 : decode cX8_isSeen 0 = .ok (.aload_n 0, 1) := by decide +kernel
theorem dX8_isSeen_1 : decode cX8_isSeen 1 = .ok (.getfield 37, 3) := by decide +kernel
theorem dX8_isSeen_4 : decode cX8_isSeen 4 = .ok (.iconst (-1), 1) := by decide +kernel
theorem dX8_isSeen_5 : decode cX8_isSeen 5 = .ok (.if_icmp .eq 11, 3) := by decide +kernel
theorem dX8_isSeen_8 : decode cX8_isSeen 8 = .ok (.iload_n 1, 1) := by decide +kernel
theorem dX8_isSeen_9 : decode cX8_isSeen 9 = .ok (.aload_n 0, 1) := by decide +kernel
theorem dX8_isSeen_10 : decode cX8_isSeen 10 = .ok (.getfield 37, 3) := by decide +kernel
theorem dX8_isSeen_13 : decode cX8_isSeen 13 = .ok (.if_icmp .gt 7, 3) := by decide +kernel
theorem dX8_isSeen_16 : decode cX8_isSeen 16 = .ok (.iconst 1, 1) := by decide +kernel
theorem dX8_isSeen_17 : decode cX8_isSeen 17 = .ok (.goto 4, 3) := by decide +kernel
theorem dX8_isSeen_20 : decode cX8_isSeen 20 = .ok (.iconst 0, 1) := by decide +kernel
theorem dX8_isSeen_21 : decode cX8_isSeen 21 = .ok (.ireturn, 1) := by decide +kernel
theorem fl_X8_37 : Cond.fieldLink RX8 37 "HookUps$Told" (TX8 9).2.1 (TX8 9).2.2.1 ∈ hk_tb := hk_tq1 145 (by decide +kernel) (by decide +kernel)
set_option maxRecDepth 100000 in
set_option maxHeartbeats 4000000 in
theorem k_X8_isSeen (l : Launch) {D : va_G} {ar : Nat → ClassId} {B : Nat → Prop} {b n : Nat} {w0 : zcW} (A : Nat → Int) (τ : Nat → Nat → Int) (told : Int) (hA : ∀ i, inI (A i)) (hR : Rel9 ar b w0 A τ) (r_told : inI told) : zt_M l D ar B b w0 n yX8_isSeen cX8_isSeen 2 (some .boolean) 0 0 [.ref (b + 1), .int (iz told)] τ (some (.int (iz (xb (decide (A 9 = -1 ∨ told ≤ A 9)))))) (τ) := by
  refine zc_start (own := RX8) (by decide +kernel) rfl (Nat.le_of_ble_eq_true rfl) ?_
  intro p e s m args below meth c C K hr hlk hnam
  have zi := hR.i
  unfold rlI at zi
  refine hv_aload_n C 0 0 dX8_isSeen_0 rfl rfl ?_
  refine zc_get C K (v := .int (iz (τ 1 9))) 9 rfl hu_9 (by decide) (cw_at 1 rfl) rfl fl_X8_37 rfl dX8_isSeen_1 ?_
  refine hv_nm (fun x1 ex1 => ?_)
  have rx1 : inI x1 := by rw [ex1]; exact (by have z := hA 9; omega)
  refine hv_iconst C dX8_isSeen_4 ?_
  refine hv_icmp_eq C 16 dX8_isSeen_5 (by decide) (by omega) (by omega) (fun h5 => ?_) (fun h5 => ?_)
  · skip
    refine hv_iconst C dX8_isSeen_16 ?_
    refine hv_goto C 21 dX8_isSeen_17 (by decide) ?_
    exact zt_zret C hr hlk ((xb_t (decide_eq_true (by omega))).symm) rfl dX8_isSeen_21
  · skip
    refine hv_iload_n C 1 1 dX8_isSeen_8 rfl rfl ?_
    refine hv_aload_n C 0 0 dX8_isSeen_9 rfl rfl ?_
    refine zc_get C K (v := .int (iz (τ 1 9))) 9 rfl hu_9 (by decide) (cw_at 1 rfl) rfl fl_X8_37 rfl dX8_isSeen_10 ?_
    refine hv_nm (fun x2 ex2 => ?_)
    have rx2 : inI x2 := by rw [ex2]; exact (by have z := hA 9; omega)
    refine hv_icmp_gt C 20 dX8_isSeen_13 (by decide) (by omega) (by omega) (fun h13 => ?_) (fun h13 => ?_)
    · skip
      refine hv_iconst C dX8_isSeen_20 ?_
      exact zt_zret C hr hlk ((xb_f (decide_eq_false (by omega))).symm) rfl dX8_isSeen_21
    · skip
      refine hv_iconst C dX8_isSeen_16 ?_
      refine hv_goto C 21 dX8_isSeen_17 (by decide) ?_
      exact zt_zret C hr hlk ((xb_t (decide_eq_true (by omega))).symm) rfl dX8_isSeen_21
theorem dX8_isSummer_0 : decode cX8_isSummer 0 = .ok (.iload_n 2, 1) := by decide +kernel
theorem dX8_isSummer_1 : decode cX8_isSummer 1 = .ok (.aload_n 0, 1) := by decide +kernel
theorem dX8_isSummer_2 : decode cX8_isSummer 2 = .ok (.getfield 25, 3) := by decide +kernel
theorem dX8_isSummer_5 : decode cX8_isSummer 5 = .ok (.iconst 2, 1) := by decide +kernel
theorem dX8_isSummer_6 : decode cX8_isSummer 6 = .ok (.iload_n 1, 1) := by decide +kernel
theorem dX8_isSummer_7 : decode cX8_isSummer 7 = .ok (.imul, 1) := by decide +kernel
theorem dX8_isSummer_8 : decode cX8_isSummer 8 = .ok (.iaload, 1) := by decide +kernel
theorem dX8_isSummer_9 : decode cX8_isSummer 9 = .ok (.if_icmp .lt 21, 3) := by decide +kernel
theorem dX8_isSummer_12 : decode cX8_isSummer 12 = .ok (.iload_n 2, 1) := by decide +kernel
theorem dX8_isSummer_13 : decode cX8_isSummer 13 = .ok (.aload_n 0, 1) := by decide +kernel
theorem dX8_isSummer_14 : decode cX8_isSummer 14 = .ok (.getfield 25, 3) := by decide +kernel
theorem dX8_isSummer_17 : decode cX8_isSummer 17 = .ok (.iconst 2, 1) := by decide +kernel
theorem dX8_isSummer_18 : decode cX8_isSummer 18 = .ok (.iload_n 1, 1) := by decide +kernel
theorem dX8_isSummer_19 : decode cX8_isSummer 19 = .ok (.imul, 1) := by decide +kernel
theorem dX8_isSummer_20 : decode cX8_isSummer 20 = .ok (.iconst 1, 1) := by decide +kernel
theorem dX8_isSummer_21 : decode cX8_isSummer 21 = .ok (.iadd, 1) := by decide +kernel
theorem dX8_isSummer_22 : decode cX8_isSummer 22 = .ok (.iaload, 1) := by decide +kernel
theorem dX8_isSummer_23 : decode cX8_isSummer 23 = .ok (.if_icmp .gt 7, 3) := by decide +kernel
theorem dX8_isSummer_26 : decode cX8_isSummer 26 = .ok (.iconst 1, 1) := by decide +kernel
theorem dX8_isSummer_27 : decode cX8_isSummer 27 = .ok (.goto 4, 3) := by decide +kernel
theorem dX8_isSummer_30 : decode cX8_isSummer 30 = .ok (.iconst 0, 1) := by decide +kernel
theorem dX8_isSummer_31 : decode cX8_isSummer 31 = .ok (.ireturn, 1) := by decide +kernel
theorem fl_X8_25 : Cond.fieldLink RX8 25 "HookUps$Told" (TX8 4).2.1 (TX8 4).2.2.1 ∈ hk_tb := hk_tq1 134 (by decide +kernel) (by decide +kernel)
set_option maxRecDepth 100000 in
set_option maxHeartbeats 4000000 in
theorem k_X8_isSummer (l : Launch) {D : va_G} {ar : Nat → ClassId} {B : Nat → Prop} {b n : Nat} {w0 : zcW} (A : Nat → Int) (τ : Nat → Nat → Int) (zone : Nat) (day : Int) (hA : ∀ i, inI (A i)) (hR : Rel9 ar b w0 A τ) (hz : zone < 4) (r_day : inI day) : zt_M l D ar B b w0 n yX8_isSummer cX8_isSummer 3 (some .boolean) 0 0 [.ref (b + 1), .int (iz ((zone : Nat) : Int)), .int (iz day)] τ (some (.int (iz (xb (decide (A (20 + 2 * zone) ≤ day ∧ day ≤ A (20 + 2 * zone + 1))))))) (τ) := by
  refine zc_start (own := RX8) (by decide +kernel) rfl (Nat.le_of_ble_eq_true rfl) ?_
  intro p e s m args below meth c C K hr hlk hnam
  have zs := hR.sum zone hz
  have zd := zs.2 day
  refine hv_iload_n C 2 2 dX8_isSummer_0 rfl rfl ?_
  refine hv_aload_n C 0 0 dX8_isSummer_1 rfl rfl ?_
  refine zc_get C K (v := .ref (b + 5)) 4 rfl hu_9 (by decide) (cw_at 1 rfl) rfl fl_X8_25 rfl dX8_isSummer_2 ?_
  refine hv_iconst C dX8_isSummer_5 ?_
  refine hv_iload_n C 1 1 dX8_isSummer_6 rfl rfl ?_
  refine hv_imul C dX8_isSummer_7 ?_
  refine zc_iald C K (f := (τ 5)) (2 * zone) (cw_at 5 rfl) (by omega) (by omega) (by decide) dX8_isSummer_8 ?_
  refine hv_as (τ 5 (2 * zone)) rfl ?_
  refine hv_nm (fun x1 ex1 => ?_)
  have rx1 : inI x1 := by rw [ex1]; exact zs.1.1
  refine hv_icmp_lt C 30 dX8_isSummer_9 (by decide) (by omega) (by omega) (fun h9 => ?_) (fun h9 => ?_)
  · skip
    refine hv_iconst C dX8_isSummer_30 ?_
    exact zt_zret C hr hlk ((xb_f (decide_eq_false (by omega))).symm) rfl dX8_isSummer_31
  · skip
    refine hv_iload_n C 2 2 dX8_isSummer_12 rfl rfl ?_
    refine hv_aload_n C 0 0 dX8_isSummer_13 rfl rfl ?_
    refine zc_get C K (v := .ref (b + 5)) 4 rfl hu_9 (by decide) (cw_at 1 rfl) rfl fl_X8_25 rfl dX8_isSummer_14 ?_
    refine hv_iconst C dX8_isSummer_17 ?_
    refine hv_iload_n C 1 1 dX8_isSummer_18 rfl rfl ?_
    refine hv_imul C dX8_isSummer_19 ?_
    refine hv_iconst C dX8_isSummer_20 ?_
    refine hv_iadd C dX8_isSummer_21 ?_
    refine zc_iald C K (f := (τ 5)) ((2 * zone) + 1) (cw_at 5 rfl) (by omega) (by omega) (by decide) dX8_isSummer_22 ?_
    refine hv_as (τ 5 ((2 * zone) + 1)) rfl ?_
    refine hv_nm (fun x2 ex2 => ?_)
    have rx2 : inI x2 := by rw [ex2]; exact zs.1.2
    refine hv_icmp_gt C 30 dX8_isSummer_23 (by decide) (by omega) (by omega) (fun h23 => ?_) (fun h23 => ?_)
    · skip
      refine hv_iconst C dX8_isSummer_30 ?_
      exact zt_zret C hr hlk ((xb_f (decide_eq_false (by omega))).symm) rfl dX8_isSummer_31
    · skip
      refine hv_iconst C dX8_isSummer_26 ?_
      refine hv_goto C 31 dX8_isSummer_27 (by decide) ?_
      exact zt_zret C hr hlk ((xb_t (decide_eq_true (by omega))).symm) rfl dX8_isSummer_31
theorem dX8_localPlace_0 : decode cX8_localPlace 0 = .ok (.iload_n 2, 1) := by decide +kernel
theorem dX8_localPlace_1 : decode cX8_localPlace 1 = .ok (.iconst 2, 1) := by decide +kernel
theorem dX8_localPlace_2 : decode cX8_localPlace 2 = .ok (.iload_n 1, 1) := by decide +kernel
theorem dX8_localPlace_3 : decode cX8_localPlace 3 = .ok (.imul, 1) := by decide +kernel
theorem dX8_localPlace_4 : decode cX8_localPlace 4 = .ok (.isub, 1) := by decide +kernel
theorem dX8_localPlace_5 : decode cX8_localPlace 5 = .ok (.istore_n 3, 1) := by decide +kernel
theorem dX8_localPlace_6 : decode cX8_localPlace 6 = .ok (.aload_n 0, 1) := by decide +kernel
theorem dX8_localPlace_7 : decode cX8_localPlace 7 = .ok (.iload_n 1, 1) := by decide +kernel
theorem dX8_localPlace_8 : decode cX8_localPlace 8 = .ok (.iload_n 2, 1) := by decide +kernel
theorem dX8_localPlace_9 : decode cX8_localPlace 9 = .ok (.bipush 48, 2) := by decide +kernel
theorem dX8_localPlace_11 : decode cX8_localPlace 11 = .ok (.idiv, 1) := by decide +kernel
theorem dX8_localPlace_12 : decode cX8_localPlace 12 = .ok (.invokevirtual 128, 3) := by decide +kernel
theorem dX8_localPlace_15 : decode cX8_localPlace 15 = .ok (.ifCond .eq 9, 3) := by decide +kernel
theorem dX8_localPlace_18 : decode cX8_localPlace 18 = .ok (.iload_n 3, 1) := by decide +kernel
theorem dX8_localPlace_19 : decode cX8_localPlace 19 = .ok (.iconst 2, 1) := by decide +kernel
theorem dX8_localPlace_20 : decode cX8_localPlace 20 = .ok (.iadd, 1) := by decide +kernel
theorem dX8_localPlace_21 : decode cX8_localPlace 21 = .ok (.goto 4, 3) := by decide +kernel
theorem dX8_localPlace_24 : decode cX8_localPlace 24 = .ok (.iload_n 3, 1) := by decide +kernel
theorem dX8_localPlace_25 : decode cX8_localPlace 25 = .ok (.ireturn, 1) := by decide +kernel
theorem ck_X8_128 : zcV RX8 RX8 yX8_isSummer cX8_isSummer 3 (some .boolean) 128 2 := ⟨hk_tq3 2 (by decide +kernel) (by decide +kernel), hk_tq2 239 (by decide +kernel) (by decide +kernel), hk_tq1 2 (by decide +kernel) (by decide +kernel), ⟨by decide, by decide, by decide +kernel⟩, hk_tq3 1 (by decide +kernel) (by decide +kernel), hk_s 4 (by decide +kernel) (by decide +kernel)⟩
set_option maxRecDepth 100000 in
set_option maxHeartbeats 4000000 in
theorem k_X8_localPlace (l : Launch) {D : va_G} {ar : Nat → ClassId} {B : Nat → Prop} {b n : Nat} {w0 : zcW} (A : Nat → Int) (τ : Nat → Nat → Int) (zone : Nat) (place : Int) (hA : ∀ i, inI (A i)) (hR : Rel9 ar b w0 A τ) (hz : zone < 4) (hp : 0 ≤ place ∧ place ≤ 9700) : zt_M l D ar B b w0 n yX8_localPlace cX8_localPlace 4 (some .int) 1 22 [.ref (b + 1), .int (iz ((zone : Nat) : Int)), .int (iz place)] τ (some (.int (iz (lo A zone (place / 48) (place % 48))))) (τ) := by
  refine zc_start (own := RX8) (by decide +kernel) rfl (Nat.le_of_ble_eq_true rfl) ?_
  intro p e s m args below meth c C K hr hlk hnam
  refine hv_iload_n C 2 2 dX8_localPlace_0 rfl rfl ?_
  refine hv_iconst C dX8_localPlace_1 ?_
  refine hv_iload_n C 1 1 dX8_localPlace_2 rfl rfl ?_
  refine hv_imul C dX8_localPlace_3 ?_
  refine hv_isub C dX8_localPlace_4 ?_
  refine hv_istore_n C 3 [(3, .int (iz (place - (2 * ((zone : Nat) : Int))))), (0, .ref (b + 1)), (1, .int (iz ((zone : Nat) : Int))), (2, .int (iz place))] dX8_localPlace_5 rfl (by decide) rfl ?_
  refine hv_aload_n C 0 1 dX8_localPlace_6 rfl rfl ?_
  refine hv_iload_n C 1 2 dX8_localPlace_7 rfl rfl ?_
  refine hv_iload_n C 2 3 dX8_localPlace_8 rfl rfl ?_
  refine hv_bipush C dX8_localPlace_9 (by decide) ?_
  refine hv_idiv C (by omega) (by omega) (by omega) (by omega) dX8_localPlace_11 ?_
  refine zt_callV [.int (iz ((zone : Nat) : Int)), .int (iz (place / 48))] [] C K (cw_at 1 rfl) rfl (k_X8_isSummer l A τ zone (place / 48) hA hR (by omega) (by omega)) ck_X8_128 (by decide) ⟨Nat.zero_le _, Nat.zero_le _⟩ rfl (Nat.le_of_ble_eq_true rfl) dX8_localPlace_12 ?_
  refine hv_as (xb (decide (A (20 + 2 * zone) ≤ (place / 48) ∧ (place / 48) ≤ A (20 + 2 * zone + 1)))) rfl ?_
  refine hv_dif_eq C 24 dX8_localPlace_15 (by decide)  (fun h15 => ?_) (fun h15 => ?_)
  · skip
    refine hv_iload_n C 3 0 dX8_localPlace_24 rfl rfl ?_
    exact zt_iret C hr hlk (by unfold lo; first | (rw [if_pos (by omega)]; omega) | (rw [if_neg (by omega)]; omega)) rfl dX8_localPlace_25
  · skip
    refine hv_iload_n C 3 0 dX8_localPlace_18 rfl rfl ?_
    refine hv_iconst C dX8_localPlace_19 ?_
    refine hv_iadd C dX8_localPlace_20 ?_
    refine hv_goto C 25 dX8_localPlace_21 (by decide) ?_
    exact zt_iret C hr hlk (by unfold lo; first | (rw [if_pos (by omega)]; omega) | (rw [if_neg (by omega)]; omega)) rfl dX8_localPlace_25
theorem dX8_networkOn_0 : decode cX8_networkOn 0 = .ok (.iconst (-1), 1) := by decide +kernel
theorem dX8_networkOn_1 : decode cX8_networkOn 1 = .ok (.istore_n 3, 1) := by decide +kernel
theorem dX8_networkOn_2 : decode cX8_networkOn 2 = .ok (.iconst 0, 1) := by decide +kernel
theorem dX8_networkOn_3 : decode cX8_networkOn 3 = .ok (.istore 4, 2) := by decide +kernel
theorem dX8_networkOn_5 : decode cX8_networkOn 5 = .ok (.iconst 0, 1) := by decide +kernel
theorem dX8_networkOn_6 : decode cX8_networkOn 6 = .ok (.istore 5, 2) := by decide +kernel
theorem dX8_networkOn_8 : decode cX8_networkOn 8 = .ok (.iload 5, 2) := by decide +kernel
theorem dX8_networkOn_10 : decode cX8_networkOn 10 = .ok (.aload_n 0, 1) := by decide +kernel
theorem dX8_networkOn_11 : decode cX8_networkOn 11 = .ok (.getfield 28, 3) := by decide +kernel
theorem dX8_networkOn_14 : decode cX8_networkOn 14 = .ok (.invokevirtual 100, 3) := by decide +kernel
theorem dX8_networkOn_17 : decode cX8_networkOn 17 = .ok (.if_icmp .ge 76, 3) := by decide +kernel
theorem dX8_networkOn_20 : decode cX8_networkOn 20 = .ok (.aload_n 0, 1) := by decide +kernel
theorem dX8_networkOn_21 : decode cX8_networkOn 21 = .ok (.getfield 28, 3) := by decide +kernel
theorem dX8_networkOn_24 : decode cX8_networkOn 24 = .ok (.iload 5, 2) := by decide +kernel
theorem dX8_networkOn_26 : decode cX8_networkOn 26 = .ok (.invokevirtual 104, 3) := by decide +kernel
theorem dX8_networkOn_29 : decode cX8_networkOn 29 = .ok (.checkcast 116, 3) := by decide +kernel
theorem dX8_networkOn_32 : decode cX8_networkOn 32 = .ok (.astore 6, 2) := by decide +kernel
theorem dX8_networkOn_34 : decode cX8_networkOn 34 = .ok (.aload 6, 2) := by decide +kernel
theorem dX8_networkOn_36 : decode cX8_networkOn 36 = .ok (.getfield 132, 3) := by decide +kernel
theorem dX8_networkOn_39 : decode cX8_networkOn 39 = .ok (.iload_n 1, 1) := by decide +kernel
theorem dX8_networkOn_40 : decode cX8_networkOn 40 = .ok (.if_icmp .ne 47, 3) := by decide +kernel
theorem dX8_networkOn_43 : decode cX8_networkOn 43 = .ok (.aload_n 0, 1) := by decide +kernel
theorem dX8_networkOn_44 : decode cX8_networkOn 44 = .ok (.aload 6, 2) := by decide +kernel
theorem dX8_networkOn_46 : decode cX8_networkOn 46 = .ok (.getfield 135, 3) := by decide +kernel
theorem dX8_networkOn_49 : decode cX8_networkOn 49 = .ok (.invokevirtual 138, 3) := by decide +kernel
theorem dX8_networkOn_52 : decode cX8_networkOn 52 = .ok (.ifCond .eq 35, 3) := by decide +kernel
theorem dX8_networkOn_55 : decode cX8_networkOn 55 = .ok (.aload 6, 2) := by decide +kernel
theorem dX8_networkOn_57 : decode cX8_networkOn 57 = .ok (.getfield 142, 3) := by decide +kernel
theorem dX8_networkOn_60 : decode cX8_networkOn 60 = .ok (.iload_n 2, 1) := by decide +kernel
theorem dX8_networkOn_61 : decode cX8_networkOn 61 = .ok (.if_icmp .gt 26, 3) := by decide +kernel
theorem dX8_networkOn_64 : decode cX8_networkOn 64 = .ok (.aload 6, 2) := by decide +kernel
theorem dX8_networkOn_66 : decode cX8_networkOn 66 = .ok (.getfield 142, 3) := by decide +kernel
theorem dX8_networkOn_69 : decode cX8_networkOn 69 = .ok (.iload 4, 2) := by decide +kernel
theorem dX8_networkOn_71 : decode cX8_networkOn 71 = .ok (.if_icmp .lt 16, 3) := by decide +kernel
theorem dX8_networkOn_74 : decode cX8_networkOn 74 = .ok (.aload 6, 2) := by decide +kernel
theorem dX8_networkOn_76 : decode cX8_networkOn 76 = .ok (.getfield 142, 3) := by decide +kernel
theorem dX8_networkOn_79 : decode cX8_networkOn 79 = .ok (.istore 4, 2) := by decide +kernel
theorem dX8_networkOn_81 : decode cX8_networkOn 81 = .ok (.aload 6, 2) := by decide +kernel
theorem dX8_networkOn_83 : decode cX8_networkOn 83 = .ok (.getfield 145, 3) := by decide +kernel
theorem dX8_networkOn_86 : decode cX8_networkOn 86 = .ok (.istore_n 3, 1) := by decide +kernel
theorem dX8_networkOn_87 : decode cX8_networkOn 87 = .ok (.iinc 5 1, 3) := by decide +kernel
theorem dX8_networkOn_90 : decode cX8_networkOn 90 = .ok (.goto (-82), 3) := by decide +kernel
theorem dX8_networkOn_93 : decode cX8_networkOn 93 = .ok (.iload_n 3, 1) := by decide +kernel
theorem dX8_networkOn_94 : decode cX8_networkOn 94 = .ok (.ireturn, 1) := by decide +kernel
theorem fl_X8_28 : Cond.fieldLink RX8 28 "HookUps$Told" (TX8 5).2.1 (TX8 5).2.2.1 ∈ hk_tb := hk_tq1 136 (by decide +kernel) (by decide +kernel)
theorem ck_X8_100 : zcV RX8 RJx4a65c yJx4a65c_size_8abf5 cJx4a65c_size_8abf5 1 (some .int) 100 0 := ⟨hk_tq2 102 (by decide +kernel) (by decide +kernel), hk_tq3 60 (by decide +kernel) (by decide +kernel), hk_tq1 5 (by decide +kernel) (by decide +kernel), ⟨by decide, by decide, by decide +kernel⟩, hk_tq2 100 (by decide +kernel) (by decide +kernel), hk_tq2 101 (by decide +kernel) (by decide +kernel)⟩
theorem ck_X8_104 : zcV RX8 RJx4a65c yJx4a65c_get_915e3 cJx4a65c_get_915e3 2 (some (.object "java/lang/Object")) 104 1 := ⟨hk_tq3 64 (by decide +kernel) (by decide +kernel), hk_tq3 61 (by decide +kernel) (by decide +kernel), hk_tq1 5 (by decide +kernel) (by decide +kernel), ⟨by decide, by decide, by decide +kernel⟩, hk_tq3 62 (by decide +kernel) (by decide +kernel), hk_tq3 63 (by decide +kernel) (by decide +kernel)⟩
theorem cl_X8_116 : Cond.classLink RX8 116 RX4 ∈ hk_tb := hk_tq3 75 (by decide +kernel) (by decide +kernel)
theorem fl_X8_132 : Cond.fieldLink RX8 132 "HookUps$Membership" (TX4 0).2.1 (TX4 0).2.2.1 ∈ hk_tb := hk_tq3 36 (by decide +kernel) (by decide +kernel)
theorem fl_X8_135 : Cond.fieldLink RX8 135 "HookUps$Membership" (TX4 3).2.1 (TX4 3).2.2.1 ∈ hk_tb := hk_tq3 42 (by decide +kernel) (by decide +kernel)
theorem ck_X8_138 : zcV RX8 RX8 yX8_isSeen cX8_isSeen 2 (some .boolean) 138 1 := ⟨hk_tq3 79 (by decide +kernel) (by decide +kernel), hk_tq3 76 (by decide +kernel) (by decide +kernel), hk_tq1 2 (by decide +kernel) (by decide +kernel), ⟨by decide, by decide, by decide +kernel⟩, hk_tq3 77 (by decide +kernel) (by decide +kernel), hk_tq3 78 (by decide +kernel) (by decide +kernel)⟩
theorem fl_X8_142 : Cond.fieldLink RX8 142 "HookUps$Membership" (TX4 2).2.1 (TX4 2).2.2.1 ∈ hk_tb := hk_tq3 40 (by decide +kernel) (by decide +kernel)
theorem fl_X8_145 : Cond.fieldLink RX8 145 "HookUps$Membership" (TX4 1).2.1 (TX4 1).2.2.1 ∈ hk_tb := hk_tq3 38 (by decide +kernel) (by decide +kernel)
set_option maxRecDepth 100000 in
set_option maxHeartbeats 4000000 in
theorem k_X8_networkOn (l : Launch) {D : va_G} {ar : Nat → ClassId} {B : Nat → Prop} {b n : Nat} {w0 : zcW} (A : Nat → Int) (τ : Nat → Nat → Int) (st : Int) (d : Int) (hA : ∀ i, inI (A i)) (hR : Rel9 ar b w0 A τ) (hm : mI A) (hc : cn A) (r_st : inI st) (r_d : inI d) : zt_M l D ar B b w0 n yX8_networkOn cX8_networkOn 7 (some .int) 3 64 [.ref (b + 1), .int (iz st), .int (iz d)] τ (some (.int (iz (member A st d)))) (τ) := by
  refine zc_start (own := RX8) (by decide +kernel) rfl (Nat.le_of_ble_eq_true rfl) ?_
  intro p e s m args below meth c C K hr hlk hnam
  have n6 := hR.l6.1
  refine hv_iconst C dX8_networkOn_0 ?_
  refine hv_istore_n C 3 [(3, .int (iz (-1))), (0, .ref (b + 1)), (1, .int (iz st)), (2, .int (iz d))] dX8_networkOn_1 rfl (by decide) rfl ?_
  refine hv_iconst C dX8_networkOn_2 ?_
  refine hv_istore C 4 [(4, .int (iz 0)), (3, .int (iz (-1))), (0, .ref (b + 1)), (1, .int (iz st)), (2, .int (iz d))] dX8_networkOn_3 (by decide) rfl ?_
  refine hv_iconst C dX8_networkOn_5 ?_
  refine hv_istore C 5 [(5, .int (iz 0)), (4, .int (iz 0)), (3, .int (iz (-1))), (0, .ref (b + 1)), (1, .int (iz st)), (2, .int (iz d))] dX8_networkOn_6 (by decide) rfl ?_
  have L8 : ∀ (f : Nat) (nw : Int) (la9 : Int) (k : Nat), (A 3).toNat - k < f → ((k : Int) ≤ A 3) → (nw = (mb A st d k).2) → (la9 = if (mb A st d k).1 < 0 then 0 else (mb A st d k).1) → (-1 ≤ (mb A st d k).1 ∧ (mb A st d k).1 ≤ 199 ∧ 0 ≤ la9 ∧ la9 ≤ 199) → hvV p l e { frames := 3, cells := 0, slots := 0, locals := 64 } s m args below meth c 7 B 0 0 (MQ below (zc_Q D B (fun r' w' n' => r' = (some (.int (iz (member A st d)))) ∧ w' = cw ar b (τ) w0 ∧ n' = n)) args s 0 0 B) (zc_I D B (cw ar b τ w0) n s.heap) 8 [(0, .ref (b + 1)), (1, .int (iz st)), (2, .int (iz d)), (3, .int (iz nw)), (4, .int (iz la9)), (5, .int (iz ((k : Nat) : Int)))] [] := by
    intro f
    induction f with
    | zero => intro _ _ _ hm; exact absurd hm (Nat.not_lt_zero _)
    | succ f ih8 =>
      intro nw la9 k hm8 hk hn9 hl9 hl8
      refine hv_iload C 5 5 dX8_networkOn_8 rfl ?_
      refine hv_aload_n C 0 0 dX8_networkOn_10 rfl rfl ?_
      refine zc_get C K (v := .ref (b + 6)) 5 rfl hu_9 (by decide) (cw_at 1 rfl) rfl fl_X8_28 rfl dX8_networkOn_11 ?_
      refine zt_callV [] [.int (iz ((k : Nat) : Int))] C K (cw_at 6 rfl) rfl (k_Jx4a65c_size_8abf5 l 6 τ  rfl) ck_X8_100 (by decide) ⟨Nat.zero_le _, Nat.zero_le _⟩ rfl (Nat.le_of_ble_eq_true rfl) dX8_networkOn_14 ?_
      refine hv_as ((τ 6 2)) rfl ?_
      refine hv_nm (fun x1 ex1 => ?_)
      have rx1 : inI x1 := by rw [ex1]; exact (by have z := hA 3; omega)
      refine hv_icmp_ge C 93 dX8_networkOn_17 (by decide) (by omega) (by omega) (fun h17 => ?_) (fun h17 => ?_)
      · skip
        refine hv_iload_n C 3 3 dX8_networkOn_93 rfl rfl ?_
        exact zt_iret C hr hlk (by unfold member; rw [hn9, show (A 3).toNat = k by omega]) rfl dX8_networkOn_94
      · skip
        refine hv_aload_n C 0 0 dX8_networkOn_20 rfl rfl ?_
        refine zc_get C K (v := .ref (b + 6)) 5 rfl hu_9 (by decide) (cw_at 1 rfl) rfl fl_X8_28 rfl dX8_networkOn_21 ?_
        refine hv_iload C 5 5 dX8_networkOn_24 rfl ?_
        obtain ⟨p2, i2, o2⟩ := (hR : Rel9 ar b w0 A τ).l6.2 k (by omega)
        refine zt_callV [.int (iz ((k : Nat) : Int))] [] C K (cw_at 6 rfl) rfl (k_Jx4a65c_get_915e3 l 6 p2 τ k rfl i2) ck_X8_104 (by decide) ⟨Nat.zero_le _, Nat.zero_le _⟩ rfl (Nat.le_of_ble_eq_true rfl) dX8_networkOn_26 ?_
        refine zc_cast C K (cw_ob o2) (hc := rfl) cl_X8_116 dX8_networkOn_29 ?_
        refine hv_astore C 6 [(6, .ref p2), (0, .ref (b + 1)), (1, .int (iz st)), (2, .int (iz d)), (3, .int (iz nw)), (4, .int (iz la9)), (5, .int (iz ((k : Nat) : Int)))] dX8_networkOn_32 (by decide) rfl ?_
        have hmk := hm k (by omega)
        refine hv_aload C 6 0 dX8_networkOn_34 rfl ?_
        refine zc_get C K (v := .int (iz (A (120 + 4 * k + 0)))) 0 rfl hu_5 (by decide) (cw_ob o2) rfl fl_X8_132 rfl dX8_networkOn_36 ?_
        refine hv_nm (fun x3 ex3 => ?_)
        have rx3 : inI x3 := by rw [ex3]; exact (hA _)
        refine hv_iload_n C 1 2 dX8_networkOn_39 rfl rfl ?_
        refine hv_icmp_ne C 87 dX8_networkOn_40 (by decide) (by omega) (by omega) (fun h40 => ?_) (fun h40 => ?_)
        · skip
          refine hv_iinc C 5 6 [(5, .int (iz (((k : Nat) : Int) + 1))), (6, .ref p2), (0, .ref (b + 1)), (1, .int (iz st)), (2, .int (iz d)), (3, .int (iz nw)), (4, .int (iz la9))] dX8_networkOn_87 rfl (by decide) rfl ?_
          refine hv_goto C 8 dX8_networkOn_90 (by decide) ?_
          refine hv_loc [2, 3, 4, 5, 6, 0] [(0, .ref (b + 1)), (1, .int (iz st)), (2, .int (iz d)), (3, .int (iz nw)), (4, .int (iz la9)), (5, .int (iz (((k : Nat) : Int) + 1)))] rfl ?_
          exact ih8 nw la9 (k + 1) (by omega) (by omega) (by have z0 : A (120 + 4 * k) = A (120 + 4 * k + 0) := rfl; have zl : (if (mb A st d k).1 < 0 then 0 else (mb A st d k).1) = la9 := hl9.symm; have zq : ((mb A st d k).1 < 0 ∧ la9 = 0) ∨ (0 ≤ (mb A st d k).1 ∧ la9 = (mb A st d k).1) := (by rw [hl9]; split <;> omega); first | (have zm : mb A st d (k + 1) = (A (120 + 4 * k + 2), A (120 + 4 * k + 1)) := (by rw [mb, if_pos (by omega)]); rw [zm]; first | omega | assumption) | (have zm : mb A st d (k + 1) = mb A st d k := (by rw [mb, if_neg (by omega)]); rw [zm]; exact hn9)) (by have z0 : A (120 + 4 * k) = A (120 + 4 * k + 0) := rfl; have zl : (if (mb A st d k).1 < 0 then 0 else (mb A st d k).1) = la9 := hl9.symm; have zq : ((mb A st d k).1 < 0 ∧ la9 = 0) ∨ (0 ≤ (mb A st d k).1 ∧ la9 = (mb A st d k).1) := (by rw [hl9]; split <;> omega); first | (have zm : mb A st d (k + 1) = (A (120 + 4 * k + 2), A (120 + 4 * k + 1)) := (by rw [mb, if_pos (by omega)]); rw [zm]; show _ = (if A (120 + 4 * k + 2) < 0 then 0 else A (120 + 4 * k + 2)); rw [if_neg (by omega)]; omega) | (have zm : mb A st d (k + 1) = mb A st d k := (by rw [mb, if_neg (by omega)]); rw [zm]; exact hl9)) (by have z0 : A (120 + 4 * k) = A (120 + 4 * k + 0) := rfl; have zl : (if (mb A st d k).1 < 0 then 0 else (mb A st d k).1) = la9 := hl9.symm; have zq : ((mb A st d k).1 < 0 ∧ la9 = 0) ∨ (0 ≤ (mb A st d k).1 ∧ la9 = (mb A st d k).1) := (by rw [hl9]; split <;> omega); first | (have zm : mb A st d (k + 1) = (A (120 + 4 * k + 2), A (120 + 4 * k + 1)) := (by rw [mb, if_pos (by omega)]); rw [zm]; (show -1 ≤ A (120 + 4 * k + 2) ∧ A (120 + 4 * k + 2) ≤ 199 ∧ _ ∧ _); omega) | (have zm : mb A st d (k + 1) = mb A st d k := (by rw [mb, if_neg (by omega)]); rw [zm]; omega))
        · skip
          refine hv_aload_n C 0 1 dX8_networkOn_43 rfl rfl ?_
          refine hv_aload C 6 0 dX8_networkOn_44 rfl ?_
          refine zc_get C K (v := .int (iz (A (120 + 4 * k + 3)))) 3 rfl hu_5 (by decide) (cw_ob o2) rfl fl_X8_135 rfl dX8_networkOn_46 ?_
          refine hv_nm (fun x4 ex4 => ?_)
          have rx4 : inI x4 := by rw [ex4]; exact (hA _)
          refine zt_callV [.int (iz x4)] [] C K (cw_at 1 rfl) rfl (k_X8_isSeen l A τ x4 hA hR (by omega)) ck_X8_138 (by decide) ⟨Nat.zero_le _, Nat.zero_le _⟩ rfl (Nat.le_of_ble_eq_true rfl) dX8_networkOn_49 ?_
          refine hv_as (xb (decide (A 9 = -1 ∨ x4 ≤ A 9))) rfl ?_
          refine hv_dif_eq C 87 dX8_networkOn_52 (by decide)  (fun h52 => ?_) (fun h52 => ?_)
          · skip
            refine hv_iinc C 5 6 [(5, .int (iz (((k : Nat) : Int) + 1))), (6, .ref p2), (0, .ref (b + 1)), (1, .int (iz st)), (2, .int (iz d)), (3, .int (iz nw)), (4, .int (iz la9))] dX8_networkOn_87 rfl (by decide) rfl ?_
            refine hv_goto C 8 dX8_networkOn_90 (by decide) ?_
            refine hv_loc [2, 3, 4, 5, 6, 0] [(0, .ref (b + 1)), (1, .int (iz st)), (2, .int (iz d)), (3, .int (iz nw)), (4, .int (iz la9)), (5, .int (iz (((k : Nat) : Int) + 1)))] rfl ?_
            exact ih8 nw la9 (k + 1) (by omega) (by omega) (by have z0 : A (120 + 4 * k) = A (120 + 4 * k + 0) := rfl; have zl : (if (mb A st d k).1 < 0 then 0 else (mb A st d k).1) = la9 := hl9.symm; have zq : ((mb A st d k).1 < 0 ∧ la9 = 0) ∨ (0 ≤ (mb A st d k).1 ∧ la9 = (mb A st d k).1) := (by rw [hl9]; split <;> omega); first | (have zm : mb A st d (k + 1) = (A (120 + 4 * k + 2), A (120 + 4 * k + 1)) := (by rw [mb, if_pos (by omega)]); rw [zm]; first | omega | assumption) | (have zm : mb A st d (k + 1) = mb A st d k := (by rw [mb, if_neg (by omega)]); rw [zm]; exact hn9)) (by have z0 : A (120 + 4 * k) = A (120 + 4 * k + 0) := rfl; have zl : (if (mb A st d k).1 < 0 then 0 else (mb A st d k).1) = la9 := hl9.symm; have zq : ((mb A st d k).1 < 0 ∧ la9 = 0) ∨ (0 ≤ (mb A st d k).1 ∧ la9 = (mb A st d k).1) := (by rw [hl9]; split <;> omega); first | (have zm : mb A st d (k + 1) = (A (120 + 4 * k + 2), A (120 + 4 * k + 1)) := (by rw [mb, if_pos (by omega)]); rw [zm]; show _ = (if A (120 + 4 * k + 2) < 0 then 0 else A (120 + 4 * k + 2)); rw [if_neg (by omega)]; omega) | (have zm : mb A st d (k + 1) = mb A st d k := (by rw [mb, if_neg (by omega)]); rw [zm]; exact hl9)) (by have z0 : A (120 + 4 * k) = A (120 + 4 * k + 0) := rfl; have zl : (if (mb A st d k).1 < 0 then 0 else (mb A st d k).1) = la9 := hl9.symm; have zq : ((mb A st d k).1 < 0 ∧ la9 = 0) ∨ (0 ≤ (mb A st d k).1 ∧ la9 = (mb A st d k).1) := (by rw [hl9]; split <;> omega); first | (have zm : mb A st d (k + 1) = (A (120 + 4 * k + 2), A (120 + 4 * k + 1)) := (by rw [mb, if_pos (by omega)]); rw [zm]; (show -1 ≤ A (120 + 4 * k + 2) ∧ A (120 + 4 * k + 2) ≤ 199 ∧ _ ∧ _); omega) | (have zm : mb A st d (k + 1) = mb A st d k := (by rw [mb, if_neg (by omega)]); rw [zm]; omega))
          · skip
            refine hv_aload C 6 0 dX8_networkOn_55 rfl ?_
            refine zc_get C K (v := .int (iz (A (120 + 4 * k + 2)))) 2 rfl hu_5 (by decide) (cw_ob o2) rfl fl_X8_142 rfl dX8_networkOn_57 ?_
            refine hv_nm (fun x5 ex5 => ?_)
            have rx5 : inI x5 := by rw [ex5]; exact (hA _)
            refine hv_iload_n C 2 3 dX8_networkOn_60 rfl rfl ?_
            refine hv_icmp_gt C 87 dX8_networkOn_61 (by decide) (by omega) (by omega) (fun h61 => ?_) (fun h61 => ?_)
            · skip
              refine hv_iinc C 5 6 [(5, .int (iz (((k : Nat) : Int) + 1))), (6, .ref p2), (0, .ref (b + 1)), (1, .int (iz st)), (2, .int (iz d)), (3, .int (iz nw)), (4, .int (iz la9))] dX8_networkOn_87 rfl (by decide) rfl ?_
              refine hv_goto C 8 dX8_networkOn_90 (by decide) ?_
              refine hv_loc [2, 3, 4, 5, 6, 0] [(0, .ref (b + 1)), (1, .int (iz st)), (2, .int (iz d)), (3, .int (iz nw)), (4, .int (iz la9)), (5, .int (iz (((k : Nat) : Int) + 1)))] rfl ?_
              exact ih8 nw la9 (k + 1) (by omega) (by omega) (by have z0 : A (120 + 4 * k) = A (120 + 4 * k + 0) := rfl; have zl : (if (mb A st d k).1 < 0 then 0 else (mb A st d k).1) = la9 := hl9.symm; have zq : ((mb A st d k).1 < 0 ∧ la9 = 0) ∨ (0 ≤ (mb A st d k).1 ∧ la9 = (mb A st d k).1) := (by rw [hl9]; split <;> omega); first | (have zm : mb A st d (k + 1) = (A (120 + 4 * k + 2), A (120 + 4 * k + 1)) := (by rw [mb, if_pos (by omega)]); rw [zm]; first | omega | assumption) | (have zm : mb A st d (k + 1) = mb A st d k := (by rw [mb, if_neg (by omega)]); rw [zm]; exact hn9)) (by have z0 : A (120 + 4 * k) = A (120 + 4 * k + 0) := rfl; have zl : (if (mb A st d k).1 < 0 then 0 else (mb A st d k).1) = la9 := hl9.symm; have zq : ((mb A st d k).1 < 0 ∧ la9 = 0) ∨ (0 ≤ (mb A st d k).1 ∧ la9 = (mb A st d k).1) := (by rw [hl9]; split <;> omega); first | (have zm : mb A st d (k + 1) = (A (120 + 4 * k + 2), A (120 + 4 * k + 1)) := (by rw [mb, if_pos (by omega)]); rw [zm]; show _ = (if A (120 + 4 * k + 2) < 0 then 0 else A (120 + 4 * k + 2)); rw [if_neg (by omega)]; omega) | (have zm : mb A st d (k + 1) = mb A st d k := (by rw [mb, if_neg (by omega)]); rw [zm]; exact hl9)) (by have z0 : A (120 + 4 * k) = A (120 + 4 * k + 0) := rfl; have zl : (if (mb A st d k).1 < 0 then 0 else (mb A st d k).1) = la9 := hl9.symm; have zq : ((mb A st d k).1 < 0 ∧ la9 = 0) ∨ (0 ≤ (mb A st d k).1 ∧ la9 = (mb A st d k).1) := (by rw [hl9]; split <;> omega); first | (have zm : mb A st d (k + 1) = (A (120 + 4 * k + 2), A (120 + 4 * k + 1)) := (by rw [mb, if_pos (by omega)]); rw [zm]; (show -1 ≤ A (120 + 4 * k + 2) ∧ A (120 + 4 * k + 2) ≤ 199 ∧ _ ∧ _); omega) | (have zm : mb A st d (k + 1) = mb A st d k := (by rw [mb, if_neg (by omega)]); rw [zm]; omega))
            · skip
              refine hv_aload C 6 0 dX8_networkOn_64 rfl ?_
              refine zc_get C K (v := .int (iz (A (120 + 4 * k + 2)))) 2 rfl hu_5 (by decide) (cw_ob o2) rfl fl_X8_142 rfl dX8_networkOn_66 ?_
              refine hv_nm (fun x6 ex6 => ?_)
              have rx6 : inI x6 := by rw [ex6]; exact (hA _)
              refine hv_iload C 4 5 dX8_networkOn_69 rfl ?_
              refine hv_icmp_lt C 87 dX8_networkOn_71 (by decide) (by omega) (by omega) (fun h71 => ?_) (fun h71 => ?_)
              · skip
                refine hv_iinc C 5 6 [(5, .int (iz (((k : Nat) : Int) + 1))), (6, .ref p2), (0, .ref (b + 1)), (1, .int (iz st)), (2, .int (iz d)), (3, .int (iz nw)), (4, .int (iz la9))] dX8_networkOn_87 rfl (by decide) rfl ?_
                refine hv_goto C 8 dX8_networkOn_90 (by decide) ?_
                refine hv_loc [2, 3, 4, 5, 6, 0] [(0, .ref (b + 1)), (1, .int (iz st)), (2, .int (iz d)), (3, .int (iz nw)), (4, .int (iz la9)), (5, .int (iz (((k : Nat) : Int) + 1)))] rfl ?_
                exact ih8 nw la9 (k + 1) (by omega) (by omega) (by have z0 : A (120 + 4 * k) = A (120 + 4 * k + 0) := rfl; have zl : (if (mb A st d k).1 < 0 then 0 else (mb A st d k).1) = la9 := hl9.symm; have zq : ((mb A st d k).1 < 0 ∧ la9 = 0) ∨ (0 ≤ (mb A st d k).1 ∧ la9 = (mb A st d k).1) := (by rw [hl9]; split <;> omega); first | (have zm : mb A st d (k + 1) = (A (120 + 4 * k + 2), A (120 + 4 * k + 1)) := (by rw [mb, if_pos (by omega)]); rw [zm]; first | omega | assumption) | (have zm : mb A st d (k + 1) = mb A st d k := (by rw [mb, if_neg (by omega)]); rw [zm]; exact hn9)) (by have z0 : A (120 + 4 * k) = A (120 + 4 * k + 0) := rfl; have zl : (if (mb A st d k).1 < 0 then 0 else (mb A st d k).1) = la9 := hl9.symm; have zq : ((mb A st d k).1 < 0 ∧ la9 = 0) ∨ (0 ≤ (mb A st d k).1 ∧ la9 = (mb A st d k).1) := (by rw [hl9]; split <;> omega); first | (have zm : mb A st d (k + 1) = (A (120 + 4 * k + 2), A (120 + 4 * k + 1)) := (by rw [mb, if_pos (by omega)]); rw [zm]; show _ = (if A (120 + 4 * k + 2) < 0 then 0 else A (120 + 4 * k + 2)); rw [if_neg (by omega)]; omega) | (have zm : mb A st d (k + 1) = mb A st d k := (by rw [mb, if_neg (by omega)]); rw [zm]; exact hl9)) (by have z0 : A (120 + 4 * k) = A (120 + 4 * k + 0) := rfl; have zl : (if (mb A st d k).1 < 0 then 0 else (mb A st d k).1) = la9 := hl9.symm; have zq : ((mb A st d k).1 < 0 ∧ la9 = 0) ∨ (0 ≤ (mb A st d k).1 ∧ la9 = (mb A st d k).1) := (by rw [hl9]; split <;> omega); first | (have zm : mb A st d (k + 1) = (A (120 + 4 * k + 2), A (120 + 4 * k + 1)) := (by rw [mb, if_pos (by omega)]); rw [zm]; (show -1 ≤ A (120 + 4 * k + 2) ∧ A (120 + 4 * k + 2) ≤ 199 ∧ _ ∧ _); omega) | (have zm : mb A st d (k + 1) = mb A st d k := (by rw [mb, if_neg (by omega)]); rw [zm]; omega))
              · skip
                refine hv_aload C 6 0 dX8_networkOn_74 rfl ?_
                refine zc_get C K (v := .int (iz (A (120 + 4 * k + 2)))) 2 rfl hu_5 (by decide) (cw_ob o2) rfl fl_X8_142 rfl dX8_networkOn_76 ?_
                refine hv_nm (fun x7 ex7 => ?_)
                have rx7 : inI x7 := by rw [ex7]; exact (hA _)
                refine hv_istore C 4 [(4, .int (iz x7)), (6, .ref p2), (0, .ref (b + 1)), (1, .int (iz st)), (2, .int (iz d)), (3, .int (iz nw)), (5, .int (iz ((k : Nat) : Int)))] dX8_networkOn_79 (by decide) rfl ?_
                refine hv_aload C 6 1 dX8_networkOn_81 rfl ?_
                refine zc_get C K (v := .int (iz (A (120 + 4 * k + 1)))) 1 rfl hu_5 (by decide) (cw_ob o2) rfl fl_X8_145 rfl dX8_networkOn_83 ?_
                refine hv_nm (fun x8 ex8 => ?_)
                have rx8 : inI x8 := by rw [ex8]; exact (hA _)
                refine hv_istore_n C 3 [(3, .int (iz x8)), (4, .int (iz x7)), (6, .ref p2), (0, .ref (b + 1)), (1, .int (iz st)), (2, .int (iz d)), (5, .int (iz ((k : Nat) : Int)))] dX8_networkOn_86 rfl (by decide) rfl ?_
                refine hv_iinc C 5 6 [(5, .int (iz (((k : Nat) : Int) + 1))), (3, .int (iz x8)), (4, .int (iz x7)), (6, .ref p2), (0, .ref (b + 1)), (1, .int (iz st)), (2, .int (iz d))] dX8_networkOn_87 rfl (by decide) rfl ?_
                refine hv_goto C 8 dX8_networkOn_90 (by decide) ?_
                refine hv_loc [4, 5, 6, 1, 2, 0] [(0, .ref (b + 1)), (1, .int (iz st)), (2, .int (iz d)), (3, .int (iz x8)), (4, .int (iz x7)), (5, .int (iz (((k : Nat) : Int) + 1)))] rfl ?_
                exact ih8 x8 x7 (k + 1) (by omega) (by omega) (by have z0 : A (120 + 4 * k) = A (120 + 4 * k + 0) := rfl; have zl : (if (mb A st d k).1 < 0 then 0 else (mb A st d k).1) = la9 := hl9.symm; have zq : ((mb A st d k).1 < 0 ∧ la9 = 0) ∨ (0 ≤ (mb A st d k).1 ∧ la9 = (mb A st d k).1) := (by rw [hl9]; split <;> omega); first | (have zm : mb A st d (k + 1) = (A (120 + 4 * k + 2), A (120 + 4 * k + 1)) := (by rw [mb, if_pos (by omega)]); rw [zm]; first | omega | assumption) | (have zm : mb A st d (k + 1) = mb A st d k := (by rw [mb, if_neg (by omega)]); rw [zm]; exact hn9)) (by have z0 : A (120 + 4 * k) = A (120 + 4 * k + 0) := rfl; have zl : (if (mb A st d k).1 < 0 then 0 else (mb A st d k).1) = la9 := hl9.symm; have zq : ((mb A st d k).1 < 0 ∧ la9 = 0) ∨ (0 ≤ (mb A st d k).1 ∧ la9 = (mb A st d k).1) := (by rw [hl9]; split <;> omega); first | (have zm : mb A st d (k + 1) = (A (120 + 4 * k + 2), A (120 + 4 * k + 1)) := (by rw [mb, if_pos (by omega)]); rw [zm]; show _ = (if A (120 + 4 * k + 2) < 0 then 0 else A (120 + 4 * k + 2)); rw [if_neg (by omega)]; omega) | (have zm : mb A st d (k + 1) = mb A st d k := (by rw [mb, if_neg (by omega)]); rw [zm]; exact hl9)) (by have z0 : A (120 + 4 * k) = A (120 + 4 * k + 0) := rfl; have zl : (if (mb A st d k).1 < 0 then 0 else (mb A st d k).1) = la9 := hl9.symm; have zq : ((mb A st d k).1 < 0 ∧ la9 = 0) ∨ (0 ≤ (mb A st d k).1 ∧ la9 = (mb A st d k).1) := (by rw [hl9]; split <;> omega); first | (have zm : mb A st d (k + 1) = (A (120 + 4 * k + 2), A (120 + 4 * k + 1)) := (by rw [mb, if_pos (by omega)]); rw [zm]; (show -1 ≤ A (120 + 4 * k + 2) ∧ A (120 + 4 * k + 2) ≤ 199 ∧ _ ∧ _); omega) | (have zm : mb A st d (k + 1) = mb A st d k := (by rw [mb, if_neg (by omega)]); rw [zm]; omega))
  refine hv_loc [3, 4, 5, 2, 1, 0] [(0, .ref (b + 1)), (1, .int (iz st)), (2, .int (iz d)), (3, .int (iz (-1))), (4, .int (iz 0)), (5, .int (iz 0))] rfl ?_
  exact L8 _ (-1) 0 0 (Nat.lt_succ_self _) (by omega) rfl rfl (by simp [mb])
theorem dX8_isSoldTo_0 : decode cX8_isSoldTo 0 = .ok (.aload_n 0, 1) := by decide +kernel
theorem dX8_isSoldTo_1 : decode cX8_isSoldTo 1 = .ok (.aload_n 1, 1) := by decide +kernel
theorem dX8_isSoldTo_2 : decode cX8_isSoldTo 2 = .ok (.getfield 148, 3) := by decide +kernel
theorem dX8_isSoldTo_5 : decode cX8_isSoldTo 5 = .ok (.invokevirtual 138, 3) := by decide +kernel
theorem dX8_isSoldTo_8 : decode cX8_isSoldTo 8 = .ok (.ifCond .eq 19, 3) := by decide +kernel
theorem dX8_isSoldTo_11 : decode cX8_isSoldTo 11 = .ok (.aload_n 1, 1) := by decide +kernel
theorem dX8_isSoldTo_12 : decode cX8_isSoldTo 12 = .ok (.getfield 149, 3) := by decide +kernel
theorem dX8_isSoldTo_15 : decode cX8_isSoldTo 15 = .ok (.iload_n 2, 1) := by decide +kernel
theorem dX8_isSoldTo_16 : decode cX8_isSoldTo 16 = .ok (.ishr, 1) := by decide +kernel
theorem dX8_isSoldTo_17 : decode cX8_isSoldTo 17 = .ok (.iconst 1, 1) := by decide +kernel
theorem dX8_isSoldTo_18 : decode cX8_isSoldTo 18 = .ok (.iand, 1) := by decide +kernel
theorem dX8_isSoldTo_19 : decode cX8_isSoldTo 19 = .ok (.iconst 1, 1) := by decide +kernel
theorem dX8_isSoldTo_20 : decode cX8_isSoldTo 20 = .ok (.if_icmp .ne 7, 3) := by decide +kernel
theorem dX8_isSoldTo_23 : decode cX8_isSoldTo 23 = .ok (.iconst 1, 1) := by decide +kernel
theorem dX8_isSoldTo_24 : decode cX8_isSoldTo 24 = .ok (.goto 4, 3) := by decide +kernel
theorem dX8_isSoldTo_27 : decode cX8_isSoldTo 27 = .ok (.iconst 0, 1) := by decide +kernel
theorem dX8_isSoldTo_28 : decode cX8_isSoldTo 28 = .ok (.ireturn, 1) := by decide +kernel
theorem fl_X8_148 : Cond.fieldLink RX8 148 "HookUps$Hour" (TX3 6).2.1 (TX3 6).2.2.1 ∈ hk_tb := hk_tq3 113 (by decide +kernel) (by decide +kernel)
theorem fl_X8_149 : Cond.fieldLink RX8 149 "HookUps$Hour" (TX3 5).2.1 (TX3 5).2.2.1 ∈ hk_tb := hk_tq3 109 (by decide +kernel) (by decide +kernel)
set_option maxRecDepth 100000 in
set_option maxHeartbeats 4000000 in
theorem k_X8_isSoldTo (l : Launch) {D : va_G} {ar : Nat → ClassId} {B : Nat → Prop} {b n : Nat} {w0 : zcW} (A : Nat → Int) (i9 p9 : Nat) (τ : Nat → Nat → Int) (st : Nat) (hA : ∀ i, inI (A i)) (hR : Rel9 ar b w0 A τ) (ho : ob9 b w0 p9 4 (fHour A i9)) (hs8 : st < 31) : zt_M l D ar B b w0 n yX8_isSoldTo cX8_isSoldTo 3 (some .boolean) 1 21 [.ref (b + 1), .ref p9, .int (iz ((st : Nat) : Int))] τ (some (.int (iz (xb (decide ((A 9 = -1 ∨ A (280 + 8 * i9 + 7) ≤ A 9) ∧ A (280 + 8 * i9 + 6) / 2 ^ st % 2 ^ 1 = 1)))))) (τ) := by
  refine zc_start (own := RX8) (by decide +kernel) rfl (Nat.le_of_ble_eq_true rfl) ?_
  intro p e s m args below meth c C K hr hlk hnam
  refine hv_aload_n C 0 0 dX8_isSoldTo_0 rfl rfl ?_
  refine hv_aload_n C 1 1 dX8_isSoldTo_1 rfl rfl ?_
  refine zc_get C K (v := .int (iz (A (280 + 8 * i9 + 7)))) 6 rfl hu_4 (by decide) (cw_ob ho) rfl fl_X8_148 rfl dX8_isSoldTo_2 ?_
  refine hv_nm (fun x1 ex1 => ?_)
  have rx1 : inI x1 := by rw [ex1]; exact (hA _)
  refine zt_callV [.int (iz x1)] [] C K (cw_at 1 rfl) rfl (k_X8_isSeen l A τ x1 hA hR (by omega)) ck_X8_138 (by decide) ⟨Nat.zero_le _, Nat.zero_le _⟩ rfl (Nat.le_of_ble_eq_true rfl) dX8_isSoldTo_5 ?_
  refine hv_as (xb (decide (A 9 = -1 ∨ x1 ≤ A 9))) rfl ?_
  refine hv_dif_eq C 27 dX8_isSoldTo_8 (by decide)  (fun h8 => ?_) (fun h8 => ?_)
  · skip
    refine hv_iconst C dX8_isSoldTo_27 ?_
    exact zt_zret C hr hlk ((xb_f (decide_eq_false (by omega))).symm) rfl dX8_isSoldTo_28
  · skip
    refine hv_aload_n C 1 1 dX8_isSoldTo_11 rfl rfl ?_
    have za6 := hA (280 + 8 * i9 + 6)
    refine zc_get C K (v := .int (iz (A (280 + 8 * i9 + 6)))) 5 rfl hu_4 (by decide) (cw_ob ho) rfl fl_X8_149 rfl dX8_isSoldTo_12 ?_
    refine hv_iload_n C 2 2 dX8_isSoldTo_15 rfl rfl ?_
    refine hv_ishr C st (by omega) (by omega) (by omega) dX8_isSoldTo_16 ?_
    refine hv_iconst C dX8_isSoldTo_17 ?_
    refine hv_imsk C 1 (by decide) (by decide) dX8_isSoldTo_18 ?_
    refine hv_iconst C dX8_isSoldTo_19 ?_
    refine hv_icmp_ne C 27 dX8_isSoldTo_20 (by decide) (by omega) (by omega) (fun h20 => ?_) (fun h20 => ?_)
    · skip
      refine hv_iconst C dX8_isSoldTo_27 ?_
      exact zt_zret C hr hlk ((xb_f (decide_eq_false (by omega))).symm) rfl dX8_isSoldTo_28
    · skip
      refine hv_iconst C dX8_isSoldTo_23 ?_
      refine hv_goto C 28 dX8_isSoldTo_24 (by decide) ?_
      exact zt_zret C hr hlk ((xb_t (decide_eq_true (by omega))).symm) rfl dX8_isSoldTo_28
theorem dX8_breakAt_0 : decode cX8_breakAt 0 = .ok (.iconst (-1), 1) := by decide +kernel
theorem dX8_breakAt_1 : decode cX8_breakAt 1 = .ok (.istore_n 3, 1) := by decide +kernel
theorem dX8_breakAt_2 : decode cX8_breakAt 2 = .ok (.iconst 0, 1) := by decide +kernel
theorem dX8_breakAt_3 : decode cX8_breakAt 3 = .ok (.istore 4, 2) := by decide +kernel
theorem dX8_breakAt_5 : decode cX8_breakAt 5 = .ok (.iconst 0, 1) := by decide +kernel
theorem dX8_breakAt_6 : decode cX8_breakAt 6 = .ok (.istore 5, 2) := by decide +kernel
theorem dX8_breakAt_8 : decode cX8_breakAt 8 = .ok (.iload 5, 2) := by decide +kernel
theorem dX8_breakAt_10 : decode cX8_breakAt 10 = .ok (.aload_n 0, 1) := by decide +kernel
theorem dX8_breakAt_11 : decode cX8_breakAt 11 = .ok (.getfield 34, 3) := by decide +kernel
theorem dX8_breakAt_14 : decode cX8_breakAt 14 = .ok (.invokevirtual 100, 3) := by decide +kernel
theorem dX8_breakAt_17 : decode cX8_breakAt 17 = .ok (.if_icmp .ge 65, 3) := by decide +kernel
theorem dX8_breakAt_20 : decode cX8_breakAt 20 = .ok (.aload_n 0, 1) := by decide +kernel
theorem dX8_breakAt_21 : decode cX8_breakAt 21 = .ok (.getfield 34, 3) := by decide +kernel
theorem dX8_breakAt_24 : decode cX8_breakAt 24 = .ok (.iload 5, 2) := by decide +kernel
theorem dX8_breakAt_26 : decode cX8_breakAt 26 = .ok (.invokevirtual 104, 3) := by decide +kernel
theorem dX8_breakAt_29 : decode cX8_breakAt 29 = .ok (.checkcast 120, 3) := by decide +kernel
theorem dX8_breakAt_32 : decode cX8_breakAt 32 = .ok (.astore 6, 2) := by decide +kernel
theorem dX8_breakAt_34 : decode cX8_breakAt 34 = .ok (.aload_n 0, 1) := by decide +kernel
theorem dX8_breakAt_35 : decode cX8_breakAt 35 = .ok (.aload 6, 2) := by decide +kernel
theorem dX8_breakAt_37 : decode cX8_breakAt 37 = .ok (.getfield 189, 3) := by decide +kernel
theorem dX8_breakAt_40 : decode cX8_breakAt 40 = .ok (.invokevirtual 138, 3) := by decide +kernel
theorem dX8_breakAt_43 : decode cX8_breakAt 43 = .ok (.ifCond .eq 33, 3) := by decide +kernel
theorem dX8_breakAt_46 : decode cX8_breakAt 46 = .ok (.aload 6, 2) := by decide +kernel
theorem dX8_breakAt_48 : decode cX8_breakAt 48 = .ok (.iload_n 1, 1) := by decide +kernel
theorem dX8_breakAt_49 : decode cX8_breakAt 49 = .ok (.iload_n 2, 1) := by decide +kernel
theorem dX8_breakAt_50 : decode cX8_breakAt 50 = .ok (.invokevirtual 190, 3) := by decide +kernel
theorem dX8_breakAt_53 : decode cX8_breakAt 53 = .ok (.ifCond .eq 23, 3) := by decide +kernel
theorem dX8_breakAt_56 : decode cX8_breakAt 56 = .ok (.aload 6, 2) := by decide +kernel
theorem dX8_breakAt_58 : decode cX8_breakAt 58 = .ok (.getfield 193, 3) := by decide +kernel
theorem dX8_breakAt_61 : decode cX8_breakAt 61 = .ok (.iload 4, 2) := by decide +kernel
theorem dX8_breakAt_63 : decode cX8_breakAt 63 = .ok (.if_icmp .lt 13, 3) := by decide +kernel
theorem dX8_breakAt_66 : decode cX8_breakAt 66 = .ok (.aload 6, 2) := by decide +kernel
theorem dX8_breakAt_68 : decode cX8_breakAt 68 = .ok (.getfield 193, 3) := by decide +kernel
theorem dX8_breakAt_71 : decode cX8_breakAt 71 = .ok (.istore 4, 2) := by decide +kernel
theorem dX8_breakAt_73 : decode cX8_breakAt 73 = .ok (.iload 5, 2) := by decide +kernel
theorem dX8_breakAt_75 : decode cX8_breakAt 75 = .ok (.istore_n 3, 1) := by decide +kernel
theorem dX8_breakAt_76 : decode cX8_breakAt 76 = .ok (.iinc 5 1, 3) := by decide +kernel
theorem dX8_breakAt_79 : decode cX8_breakAt 79 = .ok (.goto (-71), 3) := by decide +kernel
theorem dX8_breakAt_82 : decode cX8_breakAt 82 = .ok (.iload_n 3, 1) := by decide +kernel
theorem dX8_breakAt_83 : decode cX8_breakAt 83 = .ok (.ireturn, 1) := by decide +kernel
theorem fl_X8_34 : Cond.fieldLink RX8 34 "HookUps$Told" (TX8 7).2.1 (TX8 7).2.2.1 ∈ hk_tb := hk_tq1 141 (by decide +kernel) (by decide +kernel)
theorem cl_X8_120 : Cond.classLink RX8 120 RX0 ∈ hk_tb := hk_tq4 114 (by decide +kernel) (by decide +kernel)
theorem fl_X8_189 : Cond.fieldLink RX8 189 "HookUps$Break" (TX0 4).2.1 (TX0 4).2.2.1 ∈ hk_tb := hk_tq3 146 (by decide +kernel) (by decide +kernel)
theorem ck_X8_190 : zcV RX8 RX0 yX0_covers cX0_covers 3 (some .boolean) 190 2 := ⟨hk_tq4 118 (by decide +kernel) (by decide +kernel), hk_tq4 115 (by decide +kernel) (by decide +kernel), hk_tq1 22 (by decide +kernel) (by decide +kernel), ⟨by decide, by decide, by decide +kernel⟩, hk_tq4 116 (by decide +kernel) (by decide +kernel), hk_tq4 117 (by decide +kernel) (by decide +kernel)⟩
theorem fl_X8_193 : Cond.fieldLink RX8 193 "HookUps$Break" (TX0 3).2.1 (TX0 3).2.2.1 ∈ hk_tb := hk_tq3 144 (by decide +kernel) (by decide +kernel)
set_option maxRecDepth 100000 in
set_option maxHeartbeats 4000000 in
theorem k_X8_breakAt (l : Launch) {D : va_G} {ar : Nat → ClassId} {B : Nat → Prop} {b n : Nat} {w0 : zcW} (A : Nat → Int) (d t : Int) (τ : Nat → Nat → Int) (st : Int) (q : Int) (hA : ∀ i, inI (A i)) (hR : Rel9 ar b w0 A τ) (hb : bI A) (hc : cn A) (hq : q = 48 * d + t ∧ 0 ≤ t ∧ t ≤ 47 ∧ 0 ≤ d ∧ d ≤ 199) (r_st : inI st) : zt_M l D ar B b w0 n yX8_breakAt cX8_breakAt 7 (some .int) 3 64 [.ref (b + 1), .int (iz st), .int (iz q)] τ (some (.int (iz (bk A st d t (A 5).toNat)))) (τ) := by
  refine zc_start (own := RX8) (by decide +kernel) rfl (Nat.le_of_ble_eq_true rfl) ?_
  intro p e s m args below meth c C K hr hlk hnam
  have n8 := hR.l8.1
  refine hv_iconst C dX8_breakAt_0 ?_
  refine hv_istore_n C 3 [(3, .int (iz (-1))), (0, .ref (b + 1)), (1, .int (iz st)), (2, .int (iz q))] dX8_breakAt_1 rfl (by decide) rfl ?_
  refine hv_iconst C dX8_breakAt_2 ?_
  refine hv_istore C 4 [(4, .int (iz 0)), (3, .int (iz (-1))), (0, .ref (b + 1)), (1, .int (iz st)), (2, .int (iz q))] dX8_breakAt_3 (by decide) rfl ?_
  refine hv_iconst C dX8_breakAt_5 ?_
  refine hv_istore C 5 [(5, .int (iz 0)), (4, .int (iz 0)), (3, .int (iz (-1))), (0, .ref (b + 1)), (1, .int (iz st)), (2, .int (iz q))] dX8_breakAt_6 (by decide) rfl ?_
  have L8 : ∀ (f : Nat) (sg9 : Int) (rk : Int) (k : Nat), (A 5).toNat - k < f → ((k : Int) ≤ A 5) → (sg9 = bk A st d t k) → (-1 ≤ sg9 ∧ sg9 < (k : Int)) → (rk = if sg9 < 0 then 0 else A (480 + 6 * sg9.toNat + 4)) → (0 ≤ rk ∧ rk ≤ 9) → hvV p l e { frames := 3, cells := 0, slots := 0, locals := 64 } s m args below meth c 7 B 0 0 (MQ below (zc_Q D B (fun r' w' n' => r' = (some (.int (iz (bk A st d t (A 5).toNat)))) ∧ w' = cw ar b (τ) w0 ∧ n' = n)) args s 0 0 B) (zc_I D B (cw ar b τ w0) n s.heap) 8 [(0, .ref (b + 1)), (1, .int (iz st)), (2, .int (iz q)), (3, .int (iz sg9)), (4, .int (iz rk)), (5, .int (iz ((k : Nat) : Int)))] [] := by
    intro f
    induction f with
    | zero => intro _ _ _ hm; exact absurd hm (Nat.not_lt_zero _)
    | succ f ih8 =>
      intro sg9 rk k hm8 hk hs9 hs8 hrk hr8
      refine hv_iload C 5 5 dX8_breakAt_8 rfl ?_
      refine hv_aload_n C 0 0 dX8_breakAt_10 rfl rfl ?_
      refine zc_get C K (v := .ref (b + 8)) 7 rfl hu_9 (by decide) (cw_at 1 rfl) rfl fl_X8_34 rfl dX8_breakAt_11 ?_
      refine zt_callV [] [.int (iz ((k : Nat) : Int))] C K (cw_at 8 rfl) rfl (k_Jx4a65c_size_8abf5 l 8 τ  rfl) ck_X8_100 (by decide) ⟨Nat.zero_le _, Nat.zero_le _⟩ rfl (Nat.le_of_ble_eq_true rfl) dX8_breakAt_14 ?_
      refine hv_as ((τ 8 2)) rfl ?_
      refine hv_nm (fun x1 ex1 => ?_)
      have rx1 : inI x1 := by rw [ex1]; exact (by have z := hA 5; omega)
      refine hv_icmp_ge C 82 dX8_breakAt_17 (by decide) (by omega) (by omega) (fun h17 => ?_) (fun h17 => ?_)
      · skip
        refine hv_iload_n C 3 3 dX8_breakAt_82 rfl rfl ?_
        exact zt_iret C hr hlk (by rw [hs9, show (A 5).toNat = k by omega]) rfl dX8_breakAt_83
      · skip
        refine hv_aload_n C 0 0 dX8_breakAt_20 rfl rfl ?_
        refine zc_get C K (v := .ref (b + 8)) 7 rfl hu_9 (by decide) (cw_at 1 rfl) rfl fl_X8_34 rfl dX8_breakAt_21 ?_
        refine hv_iload C 5 5 dX8_breakAt_24 rfl ?_
        obtain ⟨p2, i2, o2⟩ := (hR : Rel9 ar b w0 A τ).l8.2 k (by omega)
        refine zt_callV [.int (iz ((k : Nat) : Int))] [] C K (cw_at 8 rfl) rfl (k_Jx4a65c_get_915e3 l 8 p2 τ k rfl i2) ck_X8_104 (by decide) ⟨Nat.zero_le _, Nat.zero_le _⟩ rfl (Nat.le_of_ble_eq_true rfl) dX8_breakAt_26 ?_
        refine zc_cast C K (cw_ob o2) (hc := rfl) cl_X8_120 dX8_breakAt_29 ?_
        refine hv_astore C 6 [(6, .ref p2), (0, .ref (b + 1)), (1, .int (iz st)), (2, .int (iz q)), (3, .int (iz sg9)), (4, .int (iz rk)), (5, .int (iz ((k : Nat) : Int)))] dX8_breakAt_32 (by decide) rfl ?_
        have hbk := hb k (by omega)
        refine hv_aload_n C 0 1 dX8_breakAt_34 rfl rfl ?_
        refine hv_aload C 6 0 dX8_breakAt_35 rfl ?_
        refine zc_get C K (v := .int (iz (A (480 + 6 * k + 5)))) 4 rfl hu_1 (by decide) (cw_ob o2) rfl fl_X8_189 rfl dX8_breakAt_37 ?_
        refine hv_nm (fun x3 ex3 => ?_)
        have rx3 : inI x3 := by rw [ex3]; exact (hA _)
        refine zt_callV [.int (iz x3)] [] C K (cw_at 1 rfl) rfl (k_X8_isSeen l A τ x3 hA hR (by omega)) ck_X8_138 (by decide) ⟨Nat.zero_le _, Nat.zero_le _⟩ rfl (Nat.le_of_ble_eq_true rfl) dX8_breakAt_40 ?_
        refine hv_as (xb (decide (A 9 = -1 ∨ x3 ≤ A 9))) rfl ?_
        refine hv_dif_eq C 76 dX8_breakAt_43 (by decide)  (fun h43 => ?_) (fun h43 => ?_)
        · skip
          refine hv_iinc C 5 6 [(5, .int (iz (((k : Nat) : Int) + 1))), (6, .ref p2), (0, .ref (b + 1)), (1, .int (iz st)), (2, .int (iz q)), (3, .int (iz sg9)), (4, .int (iz rk))] dX8_breakAt_76 rfl (by decide) rfl ?_
          refine hv_goto C 8 dX8_breakAt_79 (by decide) ?_
          refine hv_loc [2, 3, 4, 5, 6, 0] [(0, .ref (b + 1)), (1, .int (iz st)), (2, .int (iz q)), (3, .int (iz sg9)), (4, .int (iz rk)), (5, .int (iz (((k : Nat) : Int) + 1)))] rfl ?_
          exact ih8 sg9 rk (k + 1) (by omega) (by omega) (by have z0 : A (480 + 6 * k) = A (480 + 6 * k + 0) := rfl; have zq : (sg9 < 0 ∧ rk = 0) ∨ (0 ≤ sg9 ∧ rk = A (480 + 6 * sg9.toNat + 4)) := (by rw [hrk]; split <;> omega); first | (rw [bk, ← hs9, if_pos (by omega)]) | (rw [bk, ← hs9, if_neg (by omega)])) (by omega) (by first | exact hrk | (rw [if_neg (by omega), Int.toNat_natCast]; omega)) (by omega)
        · skip
          refine hv_aload C 6 0 dX8_breakAt_46 rfl ?_
          refine hv_iload_n C 1 2 dX8_breakAt_48 rfl rfl ?_
          refine hv_iload_n C 2 3 dX8_breakAt_49 rfl rfl ?_
          refine zt_callV [.int (iz st), .int (iz q)] [] C K (cw_ob o2) rfl (k_X0_covers l A k p2 τ st q hA o2 hb (by omega) (by omega) (by omega)) ck_X8_190 (by decide) ⟨Nat.zero_le _, Nat.zero_le _⟩ rfl (Nat.le_of_ble_eq_true rfl) dX8_breakAt_50 ?_
          refine hv_as (xb (decide ((A (480 + 6 * k + 0) = -1 ∨ A (480 + 6 * k + 0) = st) ∧ 48 * A (480 + 6 * k + 1) + A (480 + 6 * k + 2) ≤ q ∧ q ≤ 48 * A (480 + 6 * k + 1) + A (480 + 6 * k + 3)))) rfl ?_
          refine hv_dif_eq C 76 dX8_breakAt_53 (by decide)  (fun h53 => ?_) (fun h53 => ?_)
          · skip
            refine hv_iinc C 5 6 [(5, .int (iz (((k : Nat) : Int) + 1))), (6, .ref p2), (0, .ref (b + 1)), (1, .int (iz st)), (2, .int (iz q)), (3, .int (iz sg9)), (4, .int (iz rk))] dX8_breakAt_76 rfl (by decide) rfl ?_
            refine hv_goto C 8 dX8_breakAt_79 (by decide) ?_
            refine hv_loc [2, 3, 4, 5, 6, 0] [(0, .ref (b + 1)), (1, .int (iz st)), (2, .int (iz q)), (3, .int (iz sg9)), (4, .int (iz rk)), (5, .int (iz (((k : Nat) : Int) + 1)))] rfl ?_
            exact ih8 sg9 rk (k + 1) (by omega) (by omega) (by have z0 : A (480 + 6 * k) = A (480 + 6 * k + 0) := rfl; have zq : (sg9 < 0 ∧ rk = 0) ∨ (0 ≤ sg9 ∧ rk = A (480 + 6 * sg9.toNat + 4)) := (by rw [hrk]; split <;> omega); first | (rw [bk, ← hs9, if_pos (by omega)]) | (rw [bk, ← hs9, if_neg (by omega)])) (by omega) (by first | exact hrk | (rw [if_neg (by omega), Int.toNat_natCast]; omega)) (by omega)
          · skip
            refine hv_aload C 6 0 dX8_breakAt_56 rfl ?_
            refine zc_get C K (v := .int (iz (A (480 + 6 * k + 4)))) 3 rfl hu_1 (by decide) (cw_ob o2) rfl fl_X8_193 rfl dX8_breakAt_58 ?_
            refine hv_nm (fun x4 ex4 => ?_)
            have rx4 : inI x4 := by rw [ex4]; exact (hA _)
            refine hv_iload C 4 5 dX8_breakAt_61 rfl ?_
            refine hv_icmp_lt C 76 dX8_breakAt_63 (by decide) (by omega) (by omega) (fun h63 => ?_) (fun h63 => ?_)
            · skip
              refine hv_iinc C 5 6 [(5, .int (iz (((k : Nat) : Int) + 1))), (6, .ref p2), (0, .ref (b + 1)), (1, .int (iz st)), (2, .int (iz q)), (3, .int (iz sg9)), (4, .int (iz rk))] dX8_breakAt_76 rfl (by decide) rfl ?_
              refine hv_goto C 8 dX8_breakAt_79 (by decide) ?_
              refine hv_loc [2, 3, 4, 5, 6, 0] [(0, .ref (b + 1)), (1, .int (iz st)), (2, .int (iz q)), (3, .int (iz sg9)), (4, .int (iz rk)), (5, .int (iz (((k : Nat) : Int) + 1)))] rfl ?_
              exact ih8 sg9 rk (k + 1) (by omega) (by omega) (by have z0 : A (480 + 6 * k) = A (480 + 6 * k + 0) := rfl; have zq : (sg9 < 0 ∧ rk = 0) ∨ (0 ≤ sg9 ∧ rk = A (480 + 6 * sg9.toNat + 4)) := (by rw [hrk]; split <;> omega); first | (rw [bk, ← hs9, if_pos (by omega)]) | (rw [bk, ← hs9, if_neg (by omega)])) (by omega) (by first | exact hrk | (rw [if_neg (by omega), Int.toNat_natCast]; omega)) (by omega)
            · skip
              refine hv_aload C 6 0 dX8_breakAt_66 rfl ?_
              refine zc_get C K (v := .int (iz (A (480 + 6 * k + 4)))) 3 rfl hu_1 (by decide) (cw_ob o2) rfl fl_X8_193 rfl dX8_breakAt_68 ?_
              refine hv_nm (fun x5 ex5 => ?_)
              have rx5 : inI x5 := by rw [ex5]; exact (hA _)
              refine hv_istore C 4 [(4, .int (iz x5)), (6, .ref p2), (0, .ref (b + 1)), (1, .int (iz st)), (2, .int (iz q)), (3, .int (iz sg9)), (5, .int (iz ((k : Nat) : Int)))] dX8_breakAt_71 (by decide) rfl ?_
              refine hv_iload C 5 6 dX8_breakAt_73 rfl ?_
              refine hv_istore_n C 3 [(3, .int (iz ((k : Nat) : Int))), (4, .int (iz x5)), (6, .ref p2), (0, .ref (b + 1)), (1, .int (iz st)), (2, .int (iz q)), (5, .int (iz ((k : Nat) : Int)))] dX8_breakAt_75 rfl (by decide) rfl ?_
              refine hv_iinc C 5 6 [(5, .int (iz (((k : Nat) : Int) + 1))), (3, .int (iz ((k : Nat) : Int))), (4, .int (iz x5)), (6, .ref p2), (0, .ref (b + 1)), (1, .int (iz st)), (2, .int (iz q))] dX8_breakAt_76 rfl (by decide) rfl ?_
              refine hv_goto C 8 dX8_breakAt_79 (by decide) ?_
              refine hv_loc [4, 5, 6, 1, 2, 0] [(0, .ref (b + 1)), (1, .int (iz st)), (2, .int (iz q)), (3, .int (iz ((k : Nat) : Int))), (4, .int (iz x5)), (5, .int (iz (((k : Nat) : Int) + 1)))] rfl ?_
              exact ih8 ((k : Nat) : Int) x5 (k + 1) (by omega) (by omega) (by have z0 : A (480 + 6 * k) = A (480 + 6 * k + 0) := rfl; have zq : (sg9 < 0 ∧ rk = 0) ∨ (0 ≤ sg9 ∧ rk = A (480 + 6 * sg9.toNat + 4)) := (by rw [hrk]; split <;> omega); first | (rw [bk, ← hs9, if_pos (by omega)]) | (rw [bk, ← hs9, if_neg (by omega)])) (by omega) (by first | exact hrk | (rw [if_neg (by omega), Int.toNat_natCast]; omega)) (by omega)
  refine hv_loc [3, 4, 5, 2, 1, 0] [(0, .ref (b + 1)), (1, .int (iz st)), (2, .int (iz q)), (3, .int (iz (-1))), (4, .int (iz 0)), (5, .int (iz 0))] rfl ?_
  exact L8 _ (-1) 0 0 (Nat.lt_succ_self _) (by omega) rfl (by omega) rfl (by omega)
