theorem dX11_isTown_0 : decode cX11_isTown 0 = .ok (.iload_n 1, 1) := by decide +kernel
theorem dX11_isTown_1 : decode cX11_isTown 1 = .ok (.iconst 0, 1) := by decide +kernel
theorem dX11_isTown_2 : decode cX11_isTown 2 = .ok (.aload_n 0, 1) := by decide +kernel
theorem dX11_isTown_3 : decode cX11_isTown 3 = .ok (.getfield 10, 3) := by decide +kernel
theorem dX11_isTown_6 : decode cX11_isTown 6 = .ok (.getfield 44, 3) := by decide +kernel
theorem dX11_isTown_9 : decode cX11_isTown 9 = .ok (.iconst 1, 1) := by decide +kernel
theorem dX11_isTown_10 : decode cX11_isTown 10 = .ok (.isub, 1) := by decide +kernel
theorem dX11_isTown_11 : decode cX11_isTown 11 = .ok (.invokestatic 62, 3) := by decide +kernel
theorem dX11_isTown_14 : decode cX11_isTown 14 = .ok (.ireturn, 1) := by decide +kernel
theorem fl_X11_10 : Cond.fieldLink RX11 10 "HookUps" (TX11 0).2.1 (TX11 0).2.2.1 ∈ hk_tb := hk_tq2 72 (by decide +kernel) (by decide +kernel)
theorem fl_X11_44 : Cond.fieldLink RX11 44 "HookUps$Told" (TX8 0).2.1 (TX8 0).2.2.1 ∈ hk_tb := hk_tq1 122 (by decide +kernel) (by decide +kernel)
set_option maxRecDepth 100000 in
set_option maxHeartbeats 4000000 in
theorem k_X11_isTown (l : Launch) {D : va_G} {ar : Nat → ClassId} {B : Nat → Prop} {b n : Nat} {w0 : zcW} (A : Nat → Int) (τ : Nat → Nat → Int) (v : Int) (hA : ∀ i, inI (A i)) (hR : Rel9 ar b w0 A τ) (r_v : inI v) (hc : cn A) : zt_M l D ar B b w0 n yX11_isTown cX11_isTown 2 (some .boolean) 1 22 [.ref b, .int (iz v)] τ (some (.int (iz (xb (decide (0 ≤ v ∧ v ≤ A 0 - 1)))))) (τ) := by
  refine zc_start (own := RX11) (by decide +kernel) rfl (Nat.le_of_ble_eq_true rfl) ?_
  intro p e s m args below meth c C K hr hlk hnam
  have zi := hR.i
  unfold rlI at zi
  refine hv_iload_n C 1 1 dX11_isTown_0 rfl rfl ?_
  refine hv_iconst C dX11_isTown_1 ?_
  refine hv_aload_n C 0 0 dX11_isTown_2 rfl rfl ?_
  refine zc_get C K (v := .ref (b + 1)) 0 rfl hu_12 (by decide) cw_0 rfl fl_X11_10 rfl dX11_isTown_3 ?_
  refine zc_get C K (v := .int (iz (τ 1 0))) 0 rfl hu_9 (by decide) (cw_at 1 rfl) rfl fl_X11_44 rfl dX11_isTown_6 ?_
  refine hv_nm (fun x1 ex1 => ?_)
  have rx1 : inI x1 := by rw [ex1]; exact (by have z := hA 0; omega)
  refine hv_iconst C dX11_isTown_9 ?_
  refine hv_isub C dX11_isTown_10 ?_
  refine zt_callS [.int (iz v), .int (iz 0), .int (iz (x1 - 1))] [] C K (k_X11_within l  τ v 0 (x1 - 1) (by omega) (by omega) (by omega)) ck_X11_62 (by decide) ⟨Nat.zero_le _, Nat.zero_le _⟩ rfl (Nat.le_of_ble_eq_true rfl) dX11_isTown_11 ?_
  refine hv_as (xb (decide (0 ≤ v ∧ v ≤ (x1 - 1)))) rfl ?_
  exact zt_zret C hr hlk ((congrArg xb (decide_eq_decide.mpr (by omega)))) rfl dX11_isTown_14
theorem dX11_isStation_0 : decode cX11_isStation 0 = .ok (.iload_n 1, 1) := by decide +kernel
theorem dX11_isStation_1 : decode cX11_isStation 1 = .ok (.iconst 0, 1) := by decide +kernel
theorem dX11_isStation_2 : decode cX11_isStation 2 = .ok (.aload_n 0, 1) := by decide +kernel
theorem dX11_isStation_3 : decode cX11_isStation 3 = .ok (.getfield 10, 3) := by decide +kernel
theorem dX11_isStation_6 : decode cX11_isStation 6 = .ok (.getfield 75, 3) := by decide +kernel
theorem dX11_isStation_9 : decode cX11_isStation 9 = .ok (.invokevirtual 52, 3) := by decide +kernel
theorem dX11_isStation_12 : decode cX11_isStation 12 = .ok (.iconst 1, 1) := by decide +kernel
theorem dX11_isStation_13 : decode cX11_isStation 13 = .ok (.isub, 1) := by decide +kernel
theorem dX11_isStation_14 : decode cX11_isStation 14 = .ok (.invokestatic 62, 3) := by decide +kernel
theorem dX11_isStation_17 : decode cX11_isStation 17 = .ok (.ireturn, 1) := by decide +kernel
theorem fl_X11_75 : Cond.fieldLink RX11 75 "HookUps$Told" (TX8 2).2.1 (TX8 2).2.2.1 ∈ hk_tb := hk_tq1 131 (by decide +kernel) (by decide +kernel)
theorem ck_X11_52 : zcV RX11 RJx4a65c yJx4a65c_size_8abf5 cJx4a65c_size_8abf5 1 (some .int) 52 0 := ⟨hk_tq2 102 (by decide +kernel) (by decide +kernel), hk_tq2 99 (by decide +kernel) (by decide +kernel), hk_tq1 5 (by decide +kernel) (by decide +kernel), ⟨by decide, by decide, by decide +kernel⟩, hk_tq2 100 (by decide +kernel) (by decide +kernel), hk_tq2 101 (by decide +kernel) (by decide +kernel)⟩
set_option maxRecDepth 100000 in
set_option maxHeartbeats 4000000 in
theorem k_X11_isStation (l : Launch) {D : va_G} {ar : Nat → ClassId} {B : Nat → Prop} {b n : Nat} {w0 : zcW} (A : Nat → Int) (τ : Nat → Nat → Int) (v : Int) (hA : ∀ i, inI (A i)) (hR : Rel9 ar b w0 A τ) (r_v : inI v) (hc : cn A) : zt_M l D ar B b w0 n yX11_isStation cX11_isStation 2 (some .boolean) 1 22 [.ref b, .int (iz v)] τ (some (.int (iz (xb (decide (0 ≤ v ∧ v ≤ A 2 - 1)))))) (τ) := by
  refine zc_start (own := RX11) (by decide +kernel) rfl (Nat.le_of_ble_eq_true rfl) ?_
  intro p e s m args below meth c C K hr hlk hnam
  have n3 := hR.l3.1
  refine hv_iload_n C 1 1 dX11_isStation_0 rfl rfl ?_
  refine hv_iconst C dX11_isStation_1 ?_
  refine hv_aload_n C 0 0 dX11_isStation_2 rfl rfl ?_
  refine zc_get C K (v := .ref (b + 1)) 0 rfl hu_12 (by decide) cw_0 rfl fl_X11_10 rfl dX11_isStation_3 ?_
  refine zc_get C K (v := .ref (b + 3)) 2 rfl hu_9 (by decide) (cw_at 1 rfl) rfl fl_X11_75 rfl dX11_isStation_6 ?_
  refine zt_callV [] [.int (iz 0), .int (iz v)] C K (cw_at 3 rfl) rfl (k_Jx4a65c_size_8abf5 l 3 τ  rfl) ck_X11_52 (by decide) ⟨Nat.zero_le _, Nat.zero_le _⟩ rfl (Nat.le_of_ble_eq_true rfl) dX11_isStation_9 ?_
  refine hv_as ((τ 3 2)) rfl ?_
  refine hv_nm (fun x1 ex1 => ?_)
  have rx1 : inI x1 := by rw [ex1]; exact (by have z := hA 2; omega)
  refine hv_iconst C dX11_isStation_12 ?_
  refine hv_isub C dX11_isStation_13 ?_
  refine zt_callS [.int (iz v), .int (iz 0), .int (iz (x1 - 1))] [] C K (k_X11_within l  τ v 0 (x1 - 1) (by omega) (by omega) (by omega)) ck_X11_62 (by decide) ⟨Nat.zero_le _, Nat.zero_le _⟩ rfl (Nat.le_of_ble_eq_true rfl) dX11_isStation_14 ?_
  refine hv_as (xb (decide (0 ≤ v ∧ v ≤ (x1 - 1)))) rfl ?_
  exact zt_zret C hr hlk ((congrArg xb (decide_eq_decide.mpr (by omega)))) rfl dX11_isStation_17
theorem dX11_isCalls_0 : decode cX11_isCalls 0 = .ok (.iload_n 1, 1) := by decide +kernel
theorem dX11_isCalls_1 : decode cX11_isCalls 1 = .ok (.iconst 0, 1) := by decide +kernel
theorem dX11_isCalls_2 : decode cX11_isCalls 2 = .ok (.aload_n 0, 1) := by decide +kernel
theorem dX11_isCalls_3 : decode cX11_isCalls 3 = .ok (.getfield 10, 3) := by decide +kernel
theorem dX11_isCalls_6 : decode cX11_isCalls 6 = .ok (.getfield 261, 3) := by decide +kernel
theorem dX11_isCalls_9 : decode cX11_isCalls 9 = .ok (.iconst 1, 1) := by decide +kernel
theorem dX11_isCalls_10 : decode cX11_isCalls 10 = .ok (.isub, 1) := by decide +kernel
theorem dX11_isCalls_11 : decode cX11_isCalls 11 = .ok (.invokestatic 62, 3) := by decide +kernel
theorem dX11_isCalls_14 : decode cX11_isCalls 14 = .ok (.ireturn, 1) := by decide +kernel
theorem fl_X11_261 : Cond.fieldLink RX11 261 "HookUps$Told" (TX8 16).2.1 (TX8 16).2.2.1 ∈ hk_tb := hk_tq1 160 (by decide +kernel) (by decide +kernel)
set_option maxRecDepth 100000 in
set_option maxHeartbeats 4000000 in
theorem k_X11_isCalls (l : Launch) {D : va_G} {ar : Nat → ClassId} {B : Nat → Prop} {b n : Nat} {w0 : zcW} (A : Nat → Int) (τ : Nat → Nat → Int) (v : Int) (hA : ∀ i, inI (A i)) (hR : Rel9 ar b w0 A τ) (r_v : inI v) (hc : cn A) : zt_M l D ar B b w0 n yX11_isCalls cX11_isCalls 2 (some .boolean) 1 22 [.ref b, .int (iz v)] τ (some (.int (iz (xb (decide (0 ≤ v ∧ v ≤ A 6 - 1)))))) (τ) := by
  refine zc_start (own := RX11) (by decide +kernel) rfl (Nat.le_of_ble_eq_true rfl) ?_
  intro p e s m args below meth c C K hr hlk hnam
  have zi := hR.i
  unfold rlI at zi
  refine hv_iload_n C 1 1 dX11_isCalls_0 rfl rfl ?_
  refine hv_iconst C dX11_isCalls_1 ?_
  refine hv_aload_n C 0 0 dX11_isCalls_2 rfl rfl ?_
  refine zc_get C K (v := .ref (b + 1)) 0 rfl hu_12 (by decide) cw_0 rfl fl_X11_10 rfl dX11_isCalls_3 ?_
  refine zc_get C K (v := .int (iz (τ 1 16))) 16 rfl hu_9 (by decide) (cw_at 1 rfl) rfl fl_X11_261 rfl dX11_isCalls_6 ?_
  refine hv_nm (fun x1 ex1 => ?_)
  have rx1 : inI x1 := by rw [ex1]; exact (by have z := hA 6; omega)
  refine hv_iconst C dX11_isCalls_9 ?_
  refine hv_isub C dX11_isCalls_10 ?_
  refine zt_callS [.int (iz v), .int (iz 0), .int (iz (x1 - 1))] [] C K (k_X11_within l  τ v 0 (x1 - 1) (by omega) (by omega) (by omega)) ck_X11_62 (by decide) ⟨Nat.zero_le _, Nat.zero_le _⟩ rfl (Nat.le_of_ble_eq_true rfl) dX11_isCalls_11 ?_
  refine hv_as (xb (decide (0 ≤ v ∧ v ≤ (x1 - 1)))) rfl ?_
  exact zt_zret C hr hlk ((congrArg xb (decide_eq_decide.mpr (by omega)))) rfl dX11_isCalls_14
theorem dX11_isSeenSlot_0 : decode cX11_isSeenSlot 0 = .ok (.iload_n 1, 1) := by decide +kernel
theorem dX11_isSeenSlot_1 : decode cX11_isSeenSlot 1 = .ok (.iconst 0, 1) := by decide +kernel
theorem dX11_isSeenSlot_2 : decode cX11_isSeenSlot 2 = .ok (.aload_n 0, 1) := by decide +kernel
theorem dX11_isSeenSlot_3 : decode cX11_isSeenSlot 3 = .ok (.getfield 10, 3) := by decide +kernel
theorem dX11_isSeenSlot_6 : decode cX11_isSeenSlot 6 = .ok (.getfield 124, 3) := by decide +kernel
theorem dX11_isSeenSlot_9 : decode cX11_isSeenSlot 9 = .ok (.invokevirtual 52, 3) := by decide +kernel
theorem dX11_isSeenSlot_12 : decode cX11_isSeenSlot 12 = .ok (.iconst 1, 1) := by decide +kernel
theorem dX11_isSeenSlot_13 : decode cX11_isSeenSlot 13 = .ok (.isub, 1) := by decide +kernel
theorem dX11_isSeenSlot_14 : decode cX11_isSeenSlot 14 = .ok (.invokestatic 62, 3) := by decide +kernel
theorem dX11_isSeenSlot_17 : decode cX11_isSeenSlot 17 = .ok (.ifCond .ne 5, 3) := by decide +kernel
theorem dX11_isSeenSlot_20 : decode cX11_isSeenSlot 20 = .ok (.iconst 0, 1) := by decide +kernel
theorem dX11_isSeenSlot_21 : decode cX11_isSeenSlot 21 = .ok (.ireturn, 1) := by decide +kernel
theorem dX11_isSeenSlot_22 : decode cX11_isSeenSlot 22 = .ok (.aload_n 0, 1) := by decide +kernel
theorem dX11_isSeenSlot_23 : decode cX11_isSeenSlot 23 = .ok (.getfield 10, 3) := by decide +kernel
theorem dX11_isSeenSlot_26 : decode cX11_isSeenSlot 26 = .ok (.getfield 124, 3) := by decide +kernel
theorem dX11_isSeenSlot_29 : decode cX11_isSeenSlot 29 = .ok (.iload_n 1, 1) := by decide +kernel
theorem dX11_isSeenSlot_30 : decode cX11_isSeenSlot 30 = .ok (.invokevirtual 146, 3) := by decide +kernel
theorem dX11_isSeenSlot_33 : decode cX11_isSeenSlot 33 = .ok (.checkcast 130, 3) := by decide +kernel
theorem dX11_isSeenSlot_36 : decode cX11_isSeenSlot 36 = .ok (.astore_n 3, 1) := by decide +kernel
theorem dX11_isSeenSlot_37 : decode cX11_isSeenSlot 37 = .ok (.aload_n 0, 1) := by decide +kernel
theorem dX11_isSeenSlot_38 : decode cX11_isSeenSlot 38 = .ok (.getfield 10, 3) := by decide +kernel
theorem dX11_isSeenSlot_41 : decode cX11_isSeenSlot 41 = .ok (.aload_n 3, 1) := by decide +kernel
theorem dX11_isSeenSlot_42 : decode cX11_isSeenSlot 42 = .ok (.getfield 167, 3) := by decide +kernel
theorem dX11_isSeenSlot_45 : decode cX11_isSeenSlot 45 = .ok (.invokevirtual 303, 3) := by decide +kernel
theorem dX11_isSeenSlot_48 : decode cX11_isSeenSlot 48 = .ok (.ifCond .eq 21, 3) := by decide +kernel
theorem dX11_isSeenSlot_51 : decode cX11_isSeenSlot 51 = .ok (.iload_n 2, 1) := by decide +kernel
theorem dX11_isSeenSlot_52 : decode cX11_isSeenSlot 52 = .ok (.iconst 0, 1) := by decide +kernel
theorem dX11_isSeenSlot_53 : decode cX11_isSeenSlot 53 = .ok (.aload_n 3, 1) := by decide +kernel
theorem dX11_isSeenSlot_54 : decode cX11_isSeenSlot 54 = .ok (.getfield 156, 3) := by decide +kernel
theorem dX11_isSeenSlot_57 : decode cX11_isSeenSlot 57 = .ok (.iconst 1, 1) := by decide +kernel
theorem dX11_isSeenSlot_58 : decode cX11_isSeenSlot 58 = .ok (.isub, 1) := by decide +kernel
theorem dX11_isSeenSlot_59 : decode cX11_isSeenSlot 59 = .ok (.invokestatic 62, 3) := by decide +kernel
theorem dX11_isSeenSlot_62 : decode cX11_isSeenSlot 62 = .ok (.ifCond .eq 7, 3) := by decide +kernel
theorem dX11_isSeenSlot_65 : decode cX11_isSeenSlot 65 = .ok (.iconst 1, 1) := by decide +kernel
theorem dX11_isSeenSlot_66 : decode cX11_isSeenSlot 66 = .ok (.goto 4, 3) := by decide +kernel
theorem dX11_isSeenSlot_69 : decode cX11_isSeenSlot 69 = .ok (.iconst 0, 1) := by decide +kernel
theorem dX11_isSeenSlot_70 : decode cX11_isSeenSlot 70 = .ok (.ireturn, 1) := by decide +kernel
theorem fl_X11_124 : Cond.fieldLink RX11 124 "HookUps$Told" (TX8 6).2.1 (TX8 6).2.2.1 ∈ hk_tb := hk_tq1 140 (by decide +kernel) (by decide +kernel)
theorem ck_X11_146 : zcV RX11 RJx4a65c yJx4a65c_get_915e3 cJx4a65c_get_915e3 2 (some (.object "java/lang/Object")) 146 1 := ⟨hk_tq3 64 (by decide +kernel) (by decide +kernel), hk_tq3 166 (by decide +kernel) (by decide +kernel), hk_tq1 5 (by decide +kernel) (by decide +kernel), ⟨by decide, by decide, by decide +kernel⟩, hk_tq3 62 (by decide +kernel) (by decide +kernel), hk_tq3 63 (by decide +kernel) (by decide +kernel)⟩
theorem cl_X11_130 : Cond.classLink RX11 130 RX3 ∈ hk_tb := hk_tq3 87 (by decide +kernel) (by decide +kernel)
theorem fl_X11_167 : Cond.fieldLink RX11 167 "HookUps$Hour" (TX3 6).2.1 (TX3 6).2.2.1 ∈ hk_tb := hk_tq3 114 (by decide +kernel) (by decide +kernel)
theorem ck_X11_303 : zcV RX11 RX8 yX8_isSeen cX8_isSeen 2 (some .boolean) 303 1 := ⟨hk_tq3 79 (by decide +kernel) (by decide +kernel), hk_tq4 68 (by decide +kernel) (by decide +kernel), hk_tq1 2 (by decide +kernel) (by decide +kernel), ⟨by decide, by decide, by decide +kernel⟩, hk_tq3 77 (by decide +kernel) (by decide +kernel), hk_tq3 78 (by decide +kernel) (by decide +kernel)⟩
theorem fl_X11_156 : Cond.fieldLink RX11 156 "HookUps$Hour" (TX3 2).2.1 (TX3 2).2.2.1 ∈ hk_tb := hk_tq3 101 (by decide +kernel) (by decide +kernel)
set_option maxRecDepth 100000 in
set_option maxHeartbeats 4000000 in
theorem k_X11_isSeenSlot (l : Launch) {D : va_G} {ar : Nat → ClassId} {B : Nat → Prop} {b n : Nat} {w0 : zcW} (A : Nat → Int) (τ : Nat → Nat → Int) (h : Int) (i : Int) (hA : ∀ i, inI (A i)) (hR : Rel9 ar b w0 A τ) (hh : hi A) (hc : cn A) (r_h : inI h) (r_i : inI i) : zt_M l D ar B b w0 n yX11_isSeenSlot cX11_isSeenSlot 4 (some .boolean) 3 64 [.ref b, .int (iz h), .int (iz i)] τ (some (.int (iz (xb (decide (((0 ≤ h ∧ h ≤ A 4 - 1) ∧ (A 9 = -1 ∨ A ((280 + (8 * h.toNat)) + 7) ≤ A 9)) ∧ (0 ≤ i ∧ i ≤ A ((280 + (8 * h.toNat)) + 3) - 1))))))) (τ) := by
  refine zc_start (own := RX11) (by decide +kernel) rfl (Nat.le_of_ble_eq_true rfl) ?_
  intro p e s m args below meth c C K hr hlk hnam
  have n7 := hR.l7.1
  refine hv_iload_n C 1 1 dX11_isSeenSlot_0 rfl rfl ?_
  refine hv_iconst C dX11_isSeenSlot_1 ?_
  refine hv_aload_n C 0 0 dX11_isSeenSlot_2 rfl rfl ?_
  refine zc_get C K (v := .ref (b + 1)) 0 rfl hu_12 (by decide) cw_0 rfl fl_X11_10 rfl dX11_isSeenSlot_3 ?_
  refine zc_get C K (v := .ref (b + 7)) 6 rfl hu_9 (by decide) (cw_at 1 rfl) rfl fl_X11_124 rfl dX11_isSeenSlot_6 ?_
  refine zt_callV [] [.int (iz 0), .int (iz h)] C K (cw_at 7 rfl) rfl (k_Jx4a65c_size_8abf5 l 7 τ  rfl) ck_X11_52 (by decide) ⟨Nat.zero_le _, Nat.zero_le _⟩ rfl (Nat.le_of_ble_eq_true rfl) dX11_isSeenSlot_9 ?_
  refine hv_as ((τ 7 2)) rfl ?_
  refine hv_nm (fun x1 ex1 => ?_)
  have rx1 : inI x1 := by rw [ex1]; exact (by have z := hA 4; omega)
  refine hv_iconst C dX11_isSeenSlot_12 ?_
  refine hv_isub C dX11_isSeenSlot_13 ?_
  refine zt_callS [.int (iz h), .int (iz 0), .int (iz (x1 - 1))] [] C K (k_X11_within l  τ h 0 (x1 - 1) (by omega) (by omega) (by omega)) ck_X11_62 (by decide) ⟨Nat.zero_le _, Nat.zero_le _⟩ rfl (Nat.le_of_ble_eq_true rfl) dX11_isSeenSlot_14 ?_
  refine hv_as (xb (decide (0 ≤ h ∧ h ≤ (x1 - 1)))) rfl ?_
  refine hv_dif_ne C 22 dX11_isSeenSlot_17 (by decide)  (fun h17 => ?_) (fun h17 => ?_)
  · skip
    obtain ⟨hn, rfl⟩ : ∃ n9 : Nat, h = (n9 : Int) := ⟨(h).toNat, by omega⟩
    (try simp only [Int.toNat_natCast] at *)
    have hhk := hh hn (by omega)
    refine hv_aload_n C 0 0 dX11_isSeenSlot_22 rfl rfl ?_
    refine zc_get C K (v := .ref (b + 1)) 0 rfl hu_12 (by decide) cw_0 rfl fl_X11_10 rfl dX11_isSeenSlot_23 ?_
    refine zc_get C K (v := .ref (b + 7)) 6 rfl hu_9 (by decide) (cw_at 1 rfl) rfl fl_X11_124 rfl dX11_isSeenSlot_26 ?_
    refine hv_iload_n C 1 1 dX11_isSeenSlot_29 rfl rfl ?_
    obtain ⟨p2, i2, o2⟩ := (hR : Rel9 ar b w0 A τ).l7.2 hn (by omega)
    refine zt_callV [.int (iz ((hn : Nat) : Int))] [] C K (cw_at 7 rfl) rfl (k_Jx4a65c_get_915e3 l 7 p2 τ hn rfl i2) ck_X11_146 (by decide) ⟨Nat.zero_le _, Nat.zero_le _⟩ rfl (Nat.le_of_ble_eq_true rfl) dX11_isSeenSlot_30 ?_
    refine zc_cast C K (cw_ob o2) (hc := rfl) cl_X11_130 dX11_isSeenSlot_33 ?_
    refine hv_astore_n C 3 [(3, .ref p2), (0, .ref b), (1, .int (iz ((hn : Nat) : Int))), (2, .int (iz i))] dX11_isSeenSlot_36 rfl (by decide) rfl ?_
    refine hv_aload_n C 0 1 dX11_isSeenSlot_37 rfl rfl ?_
    refine zc_get C K (v := .ref (b + 1)) 0 rfl hu_12 (by decide) cw_0 rfl fl_X11_10 rfl dX11_isSeenSlot_38 ?_
    refine hv_aload_n C 3 0 dX11_isSeenSlot_41 rfl rfl ?_
    refine zc_get C K (v := .int (iz (A (280 + 8 * hn + 7)))) 6 rfl hu_4 (by decide) (cw_ob o2) rfl fl_X11_167 rfl dX11_isSeenSlot_42 ?_
    refine hv_nm (fun x3 ex3 => ?_)
    have rx3 : inI x3 := by rw [ex3]; exact (hA _)
    refine zt_callV [.int (iz x3)] [] C K (cw_at 1 rfl) rfl (k_X8_isSeen l A τ x3 hA hR (by omega)) ck_X11_303 (by decide) ⟨Nat.zero_le _, Nat.zero_le _⟩ rfl (Nat.le_of_ble_eq_true rfl) dX11_isSeenSlot_45 ?_
    refine hv_as (xb (decide (A 9 = -1 ∨ x3 ≤ A 9))) rfl ?_
    refine hv_dif_eq C 69 dX11_isSeenSlot_48 (by decide)  (fun h48 => ?_) (fun h48 => ?_)
    · skip
      refine hv_iconst C dX11_isSeenSlot_69 ?_
      exact zt_zret C hr hlk ((xb_f (decide_eq_false (by (try simp only [Int.toNat_natCast] at *); omega))).symm) rfl dX11_isSeenSlot_70
    · skip
      refine hv_iload_n C 2 3 dX11_isSeenSlot_51 rfl rfl ?_
      refine hv_iconst C dX11_isSeenSlot_52 ?_
      refine hv_aload_n C 3 0 dX11_isSeenSlot_53 rfl rfl ?_
      refine zc_get C K (v := .int (iz (A (280 + 8 * hn + 3)))) 2 rfl hu_4 (by decide) (cw_ob o2) rfl fl_X11_156 rfl dX11_isSeenSlot_54 ?_
      refine hv_nm (fun x4 ex4 => ?_)
      have rx4 : inI x4 := by rw [ex4]; exact (hA _)
      refine hv_iconst C dX11_isSeenSlot_57 ?_
      refine hv_isub C dX11_isSeenSlot_58 ?_
      refine zt_callS [.int (iz i), .int (iz 0), .int (iz (x4 - 1))] [] C K (k_X11_within l  τ i 0 (x4 - 1) (by omega) (by omega) (by omega)) ck_X11_62 (by decide) ⟨Nat.zero_le _, Nat.zero_le _⟩ rfl (Nat.le_of_ble_eq_true rfl) dX11_isSeenSlot_59 ?_
      refine hv_as (xb (decide (0 ≤ i ∧ i ≤ (x4 - 1)))) rfl ?_
      refine hv_dif_eq C 69 dX11_isSeenSlot_62 (by decide)  (fun h62 => ?_) (fun h62 => ?_)
      · skip
        refine hv_iconst C dX11_isSeenSlot_69 ?_
        exact zt_zret C hr hlk ((xb_f (decide_eq_false (by (try simp only [Int.toNat_natCast] at *); omega))).symm) rfl dX11_isSeenSlot_70
      · skip
        refine hv_iconst C dX11_isSeenSlot_65 ?_
        refine hv_goto C 70 dX11_isSeenSlot_66 (by decide) ?_
        exact zt_zret C hr hlk ((xb_t (decide_eq_true (by (try simp only [Int.toNat_natCast] at *); omega))).symm) rfl dX11_isSeenSlot_70
  · skip
    refine hv_iconst C dX11_isSeenSlot_20 ?_
    exact zt_zret C hr hlk ((xb_f (decide_eq_false (by (try simp only [Int.toNat_natCast] at *); omega))).symm) rfl dX11_isSeenSlot_21
theorem dX11_local_0 : decode cX11_local 0 = .ok (.iload_n 1, 1) := by decide +kernel
theorem dX11_local_1 : decode cX11_local 1 = .ok (.invokestatic 78, 3) := by decide +kernel
theorem dX11_local_4 : decode cX11_local 4 = .ok (.ifCond .eq 17, 3) := by decide +kernel
theorem dX11_local_7 : decode cX11_local 7 = .ok (.iload_n 2, 1) := by decide +kernel
theorem dX11_local_8 : decode cX11_local 8 = .ok (.invokestatic 86, 3) := by decide +kernel
theorem dX11_local_11 : decode cX11_local 11 = .ok (.ifCond .eq 10, 3) := by decide +kernel
theorem dX11_local_14 : decode cX11_local 14 = .ok (.iload_n 3, 1) := by decide +kernel
theorem dX11_local_15 : decode cX11_local 15 = .ok (.invokestatic 93, 3) := by decide +kernel
theorem dX11_local_18 : decode cX11_local 18 = .ok (.ifCond .ne 7, 3) := by decide +kernel
theorem dX11_local_21 : decode cX11_local 21 = .ok (.sipush (-1000), 3) := by decide +kernel
theorem dX11_local_24 : decode cX11_local 24 = .ok (.ireturn, 1) := by decide +kernel
theorem dX11_local_25 : decode cX11_local 25 = .ok (.aload_n 0, 1) := by decide +kernel
theorem dX11_local_26 : decode cX11_local 26 = .ok (.getfield 10, 3) := by decide +kernel
theorem dX11_local_29 : decode cX11_local 29 = .ok (.iload_n 1, 1) := by decide +kernel
theorem dX11_local_30 : decode cX11_local 30 = .ok (.bipush 48, 2) := by decide +kernel
theorem dX11_local_32 : decode cX11_local 32 = .ok (.iload_n 2, 1) := by decide +kernel
theorem dX11_local_33 : decode cX11_local 33 = .ok (.imul, 1) := by decide +kernel
theorem dX11_local_34 : decode cX11_local 34 = .ok (.iload_n 3, 1) := by decide +kernel
theorem dX11_local_35 : decode cX11_local 35 = .ok (.iadd, 1) := by decide +kernel
theorem dX11_local_36 : decode cX11_local 36 = .ok (.invokevirtual 96, 3) := by decide +kernel
theorem dX11_local_39 : decode cX11_local 39 = .ok (.ireturn, 1) := by decide +kernel
theorem ck_X11_78 : zcS RX11 yX11_isZone cX11_isZone 1 (some .boolean) 78 1 := ⟨hk_tq2 201 (by decide +kernel) (by decide +kernel), hk_tq2 199 (by decide +kernel) (by decide +kernel), hk_tq1 1 (by decide +kernel) (by decide +kernel), ⟨by decide, by decide, by decide +kernel⟩, hk_tq2 200 (by decide +kernel) (by decide +kernel)⟩
theorem ck_X11_86 : zcS RX11 yX11_isDay cX11_isDay 1 (some .boolean) 86 1 := ⟨hk_tq2 227 (by decide +kernel) (by decide +kernel), hk_tq2 225 (by decide +kernel) (by decide +kernel), hk_tq1 1 (by decide +kernel) (by decide +kernel), ⟨by decide, by decide, by decide +kernel⟩, hk_tq2 226 (by decide +kernel) (by decide +kernel)⟩
theorem ck_X11_93 : zcS RX11 yX11_isSlot cX11_isSlot 1 (some .boolean) 93 1 := ⟨hk_tq2 234 (by decide +kernel) (by decide +kernel), hk_tq2 232 (by decide +kernel) (by decide +kernel), hk_tq1 1 (by decide +kernel) (by decide +kernel), ⟨by decide, by decide, by decide +kernel⟩, hk_tq2 233 (by decide +kernel) (by decide +kernel)⟩
theorem ck_X11_96 : zcV RX11 RX8 yX8_localPlace cX8_localPlace 4 (some .int) 96 2 := ⟨hk_tq2 238 (by decide +kernel) (by decide +kernel), hk_tq2 235 (by decide +kernel) (by decide +kernel), hk_tq1 2 (by decide +kernel) (by decide +kernel), ⟨by decide, by decide, by decide +kernel⟩, hk_tq2 236 (by decide +kernel) (by decide +kernel), hk_tq2 237 (by decide +kernel) (by decide +kernel)⟩
set_option maxRecDepth 100000 in
set_option maxHeartbeats 4000000 in
theorem k_X11_local (l : Launch) {D : va_G} {ar : Nat → ClassId} {B : Nat → Prop} {b n : Nat} {w0 : zcW} (A : Nat → Int) (τ : Nat → Nat → Int) (zone : Int) (day : Int) (slot : Int) (hA : ∀ i, inI (A i)) (hR : Rel9 ar b w0 A τ) (r_zone : inI zone) (r_day : inI day) (r_slot : inI slot) : zt_M l D ar B b w0 n yX11_local cX11_local 4 (some .int) 2 45 [.ref b, .int (iz zone), .int (iz day), .int (iz slot)] τ (some (.int (iz (if (0 ≤ zone ∧ zone ≤ 3) ∧ (0 ≤ day ∧ day ≤ 199) ∧ (0 ≤ slot ∧ slot ≤ 47) then lo A zone.toNat day slot else -1000)))) (τ) := by
  refine zc_start (own := RX11) (by decide +kernel) rfl (Nat.le_of_ble_eq_true rfl) ?_
  intro p e s m args below meth c C K hr hlk hnam
  refine hv_iload_n C 1 1 dX11_local_0 rfl rfl ?_
  refine zt_callS [.int (iz zone)] [] C K (k_X11_isZone l  τ zone (by omega)) ck_X11_78 (by decide) ⟨Nat.zero_le _, Nat.zero_le _⟩ rfl (Nat.le_of_ble_eq_true rfl) dX11_local_1 ?_
  refine hv_as (xb (decide (0 ≤ zone ∧ zone ≤ 3))) rfl ?_
  refine hv_dif_eq C 21 dX11_local_4 (by decide)  (fun h4 => ?_) (fun h4 => ?_)
  · skip
    refine hv_sipush C dX11_local_21 (by decide) ?_
    exact zt_iret C hr hlk (by (try simp only [Int.toNat_natCast] at *); first | exact if_n (by omega) rfl | (refine if_p (by omega) ?_; subst_vars; rw [show (48 * day + slot) / 48 = day by omega, show (48 * day + slot) % 48 = slot by omega])) rfl dX11_local_24
  · skip
    refine hv_iload_n C 2 2 dX11_local_7 rfl rfl ?_
    refine zt_callS [.int (iz day)] [] C K (k_X11_isDay l  τ day (by omega)) ck_X11_86 (by decide) ⟨Nat.zero_le _, Nat.zero_le _⟩ rfl (Nat.le_of_ble_eq_true rfl) dX11_local_8 ?_
    refine hv_as (xb (decide (0 ≤ day ∧ day ≤ 199))) rfl ?_
    refine hv_dif_eq C 21 dX11_local_11 (by decide)  (fun h11 => ?_) (fun h11 => ?_)
    · skip
      refine hv_sipush C dX11_local_21 (by decide) ?_
      exact zt_iret C hr hlk (by (try simp only [Int.toNat_natCast] at *); first | exact if_n (by omega) rfl | (refine if_p (by omega) ?_; subst_vars; rw [show (48 * day + slot) / 48 = day by omega, show (48 * day + slot) % 48 = slot by omega])) rfl dX11_local_24
    · skip
      refine hv_iload_n C 3 3 dX11_local_14 rfl rfl ?_
      refine zt_callS [.int (iz slot)] [] C K (k_X11_isSlot l  τ slot (by omega)) ck_X11_93 (by decide) ⟨Nat.zero_le _, Nat.zero_le _⟩ rfl (Nat.le_of_ble_eq_true rfl) dX11_local_15 ?_
      refine hv_as (xb (decide (0 ≤ slot ∧ slot ≤ 47))) rfl ?_
      refine hv_dif_ne C 25 dX11_local_18 (by decide)  (fun h18 => ?_) (fun h18 => ?_)
      · skip
        obtain ⟨zn, rfl⟩ : ∃ n9 : Nat, zone = (n9 : Int) := ⟨(zone).toNat, by omega⟩
        refine hv_aload_n C 0 0 dX11_local_25 rfl rfl ?_
        refine zc_get C K (v := .ref (b + 1)) 0 rfl hu_12 (by decide) cw_0 rfl fl_X11_10 rfl dX11_local_26 ?_
        refine hv_iload_n C 1 1 dX11_local_29 rfl rfl ?_
        refine hv_bipush C dX11_local_30 (by decide) ?_
        refine hv_iload_n C 2 2 dX11_local_32 rfl rfl ?_
        refine hv_imul C dX11_local_33 ?_
        refine hv_iload_n C 3 3 dX11_local_34 rfl rfl ?_
        refine hv_iadd C dX11_local_35 ?_
        refine zt_callV [.int (iz ((zn : Nat) : Int)), .int (iz ((48 * day) + slot))] [] C K (cw_at 1 rfl) rfl (k_X8_localPlace l A τ zn ((48 * day) + slot) hA hR (by omega) (by omega)) ck_X11_96 (by decide) ⟨Nat.zero_le _, Nat.zero_le _⟩ rfl (Nat.le_of_ble_eq_true rfl) dX11_local_36 ?_
        refine hv_as ((lo A zn (((48 * day) + slot) / 48) (((48 * day) + slot) % 48))) rfl ?_
        exact zt_iret C hr hlk (by (try simp only [Int.toNat_natCast] at *); first | exact if_n (by omega) rfl | (refine if_p (by omega) ?_; subst_vars; rw [show (48 * day + slot) / 48 = day by omega, show (48 * day + slot) % 48 = slot by omega])) rfl dX11_local_39
      · skip
        refine hv_sipush C dX11_local_21 (by decide) ?_
        exact zt_iret C hr hlk (by (try simp only [Int.toNat_natCast] at *); first | exact if_n (by omega) rfl | (refine if_p (by omega) ?_; subst_vars; rw [show (48 * day + slot) / 48 = day by omega, show (48 * day + slot) % 48 = slot by omega])) rfl dX11_local_24
theorem dX11_twice_0 : decode cX11_twice 0 = .ok (.iload_n 1, 1) := by decide +kernel
theorem dX11_twice_1 : decode cX11_twice 1 = .ok (.invokestatic 78, 3) := by decide +kernel
theorem dX11_twice_4 : decode cX11_twice 4 = .ok (.ifCond .eq 21, 3) := by decide +kernel
theorem dX11_twice_7 : decode cX11_twice 7 = .ok (.iload_n 2, 1) := by decide +kernel
theorem dX11_twice_8 : decode cX11_twice 8 = .ok (.iconst (-1), 1) := by decide +kernel
theorem dX11_twice_9 : decode cX11_twice 9 = .ok (.sipush 200, 3) := by decide +kernel
theorem dX11_twice_12 : decode cX11_twice 12 = .ok (.invokestatic 62, 3) := by decide +kernel
theorem dX11_twice_15 : decode cX11_twice 15 = .ok (.ifCond .eq 10, 3) := by decide +kernel
theorem dX11_twice_18 : decode cX11_twice 18 = .ok (.iload_n 3, 1) := by decide +kernel
theorem dX11_twice_19 : decode cX11_twice 19 = .ok (.invokestatic 93, 3) := by decide +kernel
theorem dX11_twice_22 : decode cX11_twice 22 = .ok (.ifCond .ne 5, 3) := by decide +kernel
theorem dX11_twice_25 : decode cX11_twice 25 = .ok (.iconst (-1), 1) := by decide +kernel
theorem dX11_twice_26 : decode cX11_twice 26 = .ok (.ireturn, 1) := by decide +kernel
theorem dX11_twice_27 : decode cX11_twice 27 = .ok (.bipush 48, 2) := by decide +kernel
theorem dX11_twice_29 : decode cX11_twice 29 = .ok (.iload_n 2, 1) := by decide +kernel
theorem dX11_twice_30 : decode cX11_twice 30 = .ok (.imul, 1) := by decide +kernel
theorem dX11_twice_31 : decode cX11_twice 31 = .ok (.iload_n 3, 1) := by decide +kernel
theorem dX11_twice_32 : decode cX11_twice 32 = .ok (.iadd, 1) := by decide +kernel
theorem dX11_twice_33 : decode cX11_twice 33 = .ok (.istore 4, 2) := by decide +kernel
theorem dX11_twice_35 : decode cX11_twice 35 = .ok (.iload 4, 2) := by decide +kernel
theorem dX11_twice_37 : decode cX11_twice 37 = .ok (.iconst 2, 1) := by decide +kernel
theorem dX11_twice_38 : decode cX11_twice 38 = .ok (.iload_n 1, 1) := by decide +kernel
theorem dX11_twice_39 : decode cX11_twice 39 = .ok (.imul, 1) := by decide +kernel
theorem dX11_twice_40 : decode cX11_twice 40 = .ok (.iadd, 1) := by decide +kernel
theorem dX11_twice_41 : decode cX11_twice 41 = .ok (.istore 5, 2) := by decide +kernel
theorem dX11_twice_43 : decode cX11_twice 43 = .ok (.iload 5, 2) := by decide +kernel
theorem dX11_twice_45 : decode cX11_twice 45 = .ok (.iconst 2, 1) := by decide +kernel
theorem dX11_twice_46 : decode cX11_twice 46 = .ok (.isub, 1) := by decide +kernel
theorem dX11_twice_47 : decode cX11_twice 47 = .ok (.istore 6, 2) := by decide +kernel
theorem dX11_twice_49 : decode cX11_twice 49 = .ok (.iconst 0, 1) := by decide +kernel
theorem dX11_twice_50 : decode cX11_twice 50 = .ok (.istore 7, 2) := by decide +kernel
theorem dX11_twice_52 : decode cX11_twice 52 = .ok (.iload 5, 2) := by decide +kernel
theorem dX11_twice_54 : decode cX11_twice 54 = .ok (.invokestatic 100, 3) := by decide +kernel
theorem dX11_twice_57 : decode cX11_twice 57 = .ok (.ifCond .eq 21, 3) := by decide +kernel
theorem dX11_twice_60 : decode cX11_twice 60 = .ok (.aload_n 0, 1) := by decide +kernel
theorem dX11_twice_61 : decode cX11_twice 61 = .ok (.getfield 10, 3) := by decide +kernel
theorem dX11_twice_64 : decode cX11_twice 64 = .ok (.iload_n 1, 1) := by decide +kernel
theorem dX11_twice_65 : decode cX11_twice 65 = .ok (.iload 5, 2) := by decide +kernel
theorem dX11_twice_67 : decode cX11_twice 67 = .ok (.invokevirtual 96, 3) := by decide +kernel
theorem dX11_twice_70 : decode cX11_twice 70 = .ok (.iload 4, 2) := by decide +kernel
theorem dX11_twice_72 : decode cX11_twice 72 = .ok (.if_icmp .ne 6, 3) := by decide +kernel
theorem dX11_twice_75 : decode cX11_twice 75 = .ok (.iinc 7 1, 3) := by decide +kernel
theorem dX11_twice_78 : decode cX11_twice 78 = .ok (.iload 6, 2) := by decide +kernel
theorem dX11_twice_80 : decode cX11_twice 80 = .ok (.invokestatic 100, 3) := by decide +kernel
theorem dX11_twice_83 : decode cX11_twice 83 = .ok (.ifCond .eq 21, 3) := by decide +kernel
theorem dX11_twice_86 : decode cX11_twice 86 = .ok (.aload_n 0, 1) := by decide +kernel
theorem dX11_twice_87 : decode cX11_twice 87 = .ok (.getfield 10, 3) := by decide +kernel
theorem dX11_twice_90 : decode cX11_twice 90 = .ok (.iload_n 1, 1) := by decide +kernel
theorem dX11_twice_91 : decode cX11_twice 91 = .ok (.iload 6, 2) := by decide +kernel
theorem dX11_twice_93 : decode cX11_twice 93 = .ok (.invokevirtual 96, 3) := by decide +kernel
theorem dX11_twice_96 : decode cX11_twice 96 = .ok (.iload 4, 2) := by decide +kernel
theorem dX11_twice_98 : decode cX11_twice 98 = .ok (.if_icmp .ne 6, 3) := by decide +kernel
theorem dX11_twice_101 : decode cX11_twice 101 = .ok (.iinc 7 1, 3) := by decide +kernel
theorem dX11_twice_104 : decode cX11_twice 104 = .ok (.iload 7, 2) := by decide +kernel
theorem dX11_twice_106 : decode cX11_twice 106 = .ok (.ireturn, 1) := by decide +kernel
theorem ck_X11_100 : zcS RX11 yX11_isPlace cX11_isPlace 1 (some .boolean) 100 1 := ⟨hk_tq3 9 (by decide +kernel) (by decide +kernel), hk_tq3 7 (by decide +kernel) (by decide +kernel), hk_tq1 1 (by decide +kernel) (by decide +kernel), ⟨by decide, by decide, by decide +kernel⟩, hk_tq3 8 (by decide +kernel) (by decide +kernel)⟩
set_option maxRecDepth 100000 in
set_option maxHeartbeats 4000000 in
theorem k_X11_twice (l : Launch) {D : va_G} {ar : Nat → ClassId} {B : Nat → Prop} {b n : Nat} {w0 : zcW} (A : Nat → Int) (τ : Nat → Nat → Int) (zone : Int) (day : Int) (slot : Int) (hA : ∀ i, inI (A i)) (hR : Rel9 ar b w0 A τ) (r_zone : inI zone) (r_day : inI day) (r_slot : inI slot) : zt_M l D ar B b w0 n yX11_twice cX11_twice 8 (some .int) 2 45 [.ref b, .int (iz zone), .int (iz day), .int (iz slot)] τ (some (.int (iz (if (0 ≤ zone ∧ zone ≤ 3) ∧ (-1 ≤ day ∧ day ≤ 200) ∧ (0 ≤ slot ∧ slot ≤ 47) then tws A zone.toNat day slot 2 else -1)))) (τ) := by
  refine zc_start (own := RX11) (by decide +kernel) rfl (Nat.le_of_ble_eq_true rfl) ?_
  intro p e s m args below meth c C K hr hlk hnam
  refine hv_iload_n C 1 1 dX11_twice_0 rfl rfl ?_
  refine zt_callS [.int (iz zone)] [] C K (k_X11_isZone l  τ zone (by omega)) ck_X11_78 (by decide) ⟨Nat.zero_le _, Nat.zero_le _⟩ rfl (Nat.le_of_ble_eq_true rfl) dX11_twice_1 ?_
  refine hv_as (xb (decide (0 ≤ zone ∧ zone ≤ 3))) rfl ?_
  refine hv_dif_eq C 25 dX11_twice_4 (by decide)  (fun h4 => ?_) (fun h4 => ?_)
  · skip
    refine hv_iconst C dX11_twice_25 ?_
    exact zt_iret C hr hlk (by (try simp only [Int.toNat_natCast]); first | exact if_n (by omega) rfl | (refine if_p (by omega) ?_; show _ = 0 + twc A zn day slot (48 * day + slot + 2 * ((zn : Nat) : Int) - 2 + 2 * ((0 : Nat) : Int)) + twc A zn day slot (48 * day + slot + 2 * ((zn : Nat) : Int) - 2 + 2 * ((1 : Nat) : Int)); rw [show 48 * day + slot + 2 * ((zn : Nat) : Int) - 2 + 2 * ((0 : Nat) : Int) = 48 * day + slot + 2 * ((zn : Nat) : Int) - 2 by omega, show 48 * day + slot + 2 * ((zn : Nat) : Int) - 2 + 2 * ((1 : Nat) : Int) = 48 * day + slot + 2 * ((zn : Nat) : Int) by omega]; unfold twc; subst_vars; first | (rw [if_pos ⟨by omega, by omega⟩, if_pos ⟨by omega, by omega⟩]; first | done | rfl | omega) | (rw [if_pos ⟨by omega, by omega⟩, if_neg (fun z9 => by have z8 := z9.1; have z7 := z9.2; omega)]; first | done | rfl | omega) | (rw [if_neg (fun z9 => by have z8 := z9.1; have z7 := z9.2; omega), if_pos ⟨by omega, by omega⟩]; first | done | rfl | omega) | (rw [if_neg (fun z9 => by have z8 := z9.1; have z7 := z9.2; omega), if_neg (fun z9 => by have z8 := z9.1; have z7 := z9.2; omega)]; first | done | rfl | omega))) rfl dX11_twice_26
  · skip
    refine hv_iload_n C 2 2 dX11_twice_7 rfl rfl ?_
    refine hv_iconst C dX11_twice_8 ?_
    refine hv_sipush C dX11_twice_9 (by decide) ?_
    refine zt_callS [.int (iz day), .int (iz (-1)), .int (iz 200)] [] C K (k_X11_within l  τ day (-1) 200 (by omega) (by omega) (by omega)) ck_X11_62 (by decide) ⟨Nat.zero_le _, Nat.zero_le _⟩ rfl (Nat.le_of_ble_eq_true rfl) dX11_twice_12 ?_
    refine hv_as (xb (decide ((-1) ≤ day ∧ day ≤ 200))) rfl ?_
    refine hv_dif_eq C 25 dX11_twice_15 (by decide)  (fun h15 => ?_) (fun h15 => ?_)
    · skip
      refine hv_iconst C dX11_twice_25 ?_
      exact zt_iret C hr hlk (by (try simp only [Int.toNat_natCast]); first | exact if_n (by omega) rfl | (refine if_p (by omega) ?_; show _ = 0 + twc A zn day slot (48 * day + slot + 2 * ((zn : Nat) : Int) - 2 + 2 * ((0 : Nat) : Int)) + twc A zn day slot (48 * day + slot + 2 * ((zn : Nat) : Int) - 2 + 2 * ((1 : Nat) : Int)); rw [show 48 * day + slot + 2 * ((zn : Nat) : Int) - 2 + 2 * ((0 : Nat) : Int) = 48 * day + slot + 2 * ((zn : Nat) : Int) - 2 by omega, show 48 * day + slot + 2 * ((zn : Nat) : Int) - 2 + 2 * ((1 : Nat) : Int) = 48 * day + slot + 2 * ((zn : Nat) : Int) by omega]; unfold twc; subst_vars; first | (rw [if_pos ⟨by omega, by omega⟩, if_pos ⟨by omega, by omega⟩]; first | done | rfl | omega) | (rw [if_pos ⟨by omega, by omega⟩, if_neg (fun z9 => by have z8 := z9.1; have z7 := z9.2; omega)]; first | done | rfl | omega) | (rw [if_neg (fun z9 => by have z8 := z9.1; have z7 := z9.2; omega), if_pos ⟨by omega, by omega⟩]; first | done | rfl | omega) | (rw [if_neg (fun z9 => by have z8 := z9.1; have z7 := z9.2; omega), if_neg (fun z9 => by have z8 := z9.1; have z7 := z9.2; omega)]; first | done | rfl | omega))) rfl dX11_twice_26
    · skip
      refine hv_iload_n C 3 3 dX11_twice_18 rfl rfl ?_
      refine zt_callS [.int (iz slot)] [] C K (k_X11_isSlot l  τ slot (by omega)) ck_X11_93 (by decide) ⟨Nat.zero_le _, Nat.zero_le _⟩ rfl (Nat.le_of_ble_eq_true rfl) dX11_twice_19 ?_
      refine hv_as (xb (decide (0 ≤ slot ∧ slot ≤ 47))) rfl ?_
      refine hv_dif_ne C 27 dX11_twice_22 (by decide)  (fun h22 => ?_) (fun h22 => ?_)
      · skip
        obtain ⟨zn, rfl⟩ : ∃ n9 : Nat, zone = (n9 : Int) := ⟨(zone).toNat, by omega⟩
        refine hv_bipush C dX11_twice_27 (by decide) ?_
        refine hv_iload_n C 2 2 dX11_twice_29 rfl rfl ?_
        refine hv_imul C dX11_twice_30 ?_
        refine hv_iload_n C 3 3 dX11_twice_31 rfl rfl ?_
        refine hv_iadd C dX11_twice_32 ?_
        refine hv_istore C 4 [(4, .int (iz ((48 * day) + slot))), (0, .ref b), (1, .int (iz ((zn : Nat) : Int))), (2, .int (iz day)), (3, .int (iz slot))] dX11_twice_33 (by decide) rfl ?_
        refine hv_iload C 4 0 dX11_twice_35 rfl ?_
        refine hv_iconst C dX11_twice_37 ?_
        refine hv_iload_n C 1 2 dX11_twice_38 rfl rfl ?_
        refine hv_imul C dX11_twice_39 ?_
        refine hv_iadd C dX11_twice_40 ?_
        refine hv_istore C 5 [(5, .int (iz (((48 * day) + slot) + (2 * ((zn : Nat) : Int))))), (4, .int (iz ((48 * day) + slot))), (0, .ref b), (1, .int (iz ((zn : Nat) : Int))), (2, .int (iz day)), (3, .int (iz slot))] dX11_twice_41 (by decide) rfl ?_
        refine hv_iload C 5 0 dX11_twice_43 rfl ?_
        refine hv_iconst C dX11_twice_45 ?_
        refine hv_isub C dX11_twice_46 ?_
        refine hv_istore C 6 [(6, .int (iz ((((48 * day) + slot) + (2 * ((zn : Nat) : Int))) - 2))), (5, .int (iz (((48 * day) + slot) + (2 * ((zn : Nat) : Int))))), (4, .int (iz ((48 * day) + slot))), (0, .ref b), (1, .int (iz ((zn : Nat) : Int))), (2, .int (iz day)), (3, .int (iz slot))] dX11_twice_47 (by decide) rfl ?_
        refine hv_iconst C dX11_twice_49 ?_
        refine hv_istore C 7 [(7, .int (iz 0)), (6, .int (iz ((((48 * day) + slot) + (2 * ((zn : Nat) : Int))) - 2))), (5, .int (iz (((48 * day) + slot) + (2 * ((zn : Nat) : Int))))), (4, .int (iz ((48 * day) + slot))), (0, .ref b), (1, .int (iz ((zn : Nat) : Int))), (2, .int (iz day)), (3, .int (iz slot))] dX11_twice_50 (by decide) rfl ?_
        refine hv_iload C 5 2 dX11_twice_52 rfl ?_
        refine zt_callS [.int (iz (((48 * day) + slot) + (2 * ((zn : Nat) : Int))))] [] C K (k_X11_isPlace l  τ (((48 * day) + slot) + (2 * ((zn : Nat) : Int))) (by omega)) ck_X11_100 (by decide) ⟨Nat.zero_le _, Nat.zero_le _⟩ rfl (Nat.le_of_ble_eq_true rfl) dX11_twice_54 ?_
        refine hv_as (xb (decide (0 ≤ (((48 * day) + slot) + (2 * ((zn : Nat) : Int))) ∧ (((48 * day) + slot) + (2 * ((zn : Nat) : Int))) ≤ 9599))) rfl ?_
        refine hv_dif_eq C 78 dX11_twice_57 (by decide)  (fun h57 => ?_) (fun h57 => ?_)
        · skip
          refine hv_iload C 6 1 dX11_twice_78 rfl ?_
          refine zt_callS [.int (iz ((((48 * day) + slot) + (2 * ((zn : Nat) : Int))) - 2))] [] C K (k_X11_isPlace l  τ ((((48 * day) + slot) + (2 * ((zn : Nat) : Int))) - 2) (by omega)) ck_X11_100 (by decide) ⟨Nat.zero_le _, Nat.zero_le _⟩ rfl (Nat.le_of_ble_eq_true rfl) dX11_twice_80 ?_
          refine hv_as (xb (decide (0 ≤ ((((48 * day) + slot) + (2 * ((zn : Nat) : Int))) - 2) ∧ ((((48 * day) + slot) + (2 * ((zn : Nat) : Int))) - 2) ≤ 9599))) rfl ?_
          refine hv_dif_eq C 104 dX11_twice_83 (by decide)  (fun h83 => ?_) (fun h83 => ?_)
          · skip
            refine hv_iload C 7 0 dX11_twice_104 rfl ?_
            exact zt_iret C hr hlk (by (try simp only [Int.toNat_natCast]); first | exact if_n (by omega) rfl | (refine if_p (by omega) ?_; show _ = 0 + twc A zn day slot (48 * day + slot + 2 * ((zn : Nat) : Int) - 2 + 2 * ((0 : Nat) : Int)) + twc A zn day slot (48 * day + slot + 2 * ((zn : Nat) : Int) - 2 + 2 * ((1 : Nat) : Int)); rw [show 48 * day + slot + 2 * ((zn : Nat) : Int) - 2 + 2 * ((0 : Nat) : Int) = 48 * day + slot + 2 * ((zn : Nat) : Int) - 2 by omega, show 48 * day + slot + 2 * ((zn : Nat) : Int) - 2 + 2 * ((1 : Nat) : Int) = 48 * day + slot + 2 * ((zn : Nat) : Int) by omega]; unfold twc; subst_vars; first | (rw [if_pos ⟨by omega, by omega⟩, if_pos ⟨by omega, by omega⟩]; first | done | rfl | omega) | (rw [if_pos ⟨by omega, by omega⟩, if_neg (fun z9 => by have z8 := z9.1; have z7 := z9.2; omega)]; first | done | rfl | omega) | (rw [if_neg (fun z9 => by have z8 := z9.1; have z7 := z9.2; omega), if_pos ⟨by omega, by omega⟩]; first | done | rfl | omega) | (rw [if_neg (fun z9 => by have z8 := z9.1; have z7 := z9.2; omega), if_neg (fun z9 => by have z8 := z9.1; have z7 := z9.2; omega)]; first | done | rfl | omega))) rfl dX11_twice_106
          · skip
            refine hv_aload_n C 0 4 dX11_twice_86 rfl rfl ?_
            refine zc_get C K (v := .ref (b + 1)) 0 rfl hu_12 (by decide) cw_0 rfl fl_X11_10 rfl dX11_twice_87 ?_
            refine hv_iload_n C 1 5 dX11_twice_90 rfl rfl ?_
            refine hv_iload C 6 1 dX11_twice_91 rfl ?_
            refine zt_callV [.int (iz ((zn : Nat) : Int)), .int (iz ((((48 * day) + slot) + (2 * ((zn : Nat) : Int))) - 2))] [] C K (cw_at 1 rfl) rfl (k_X8_localPlace l A τ zn ((((48 * day) + slot) + (2 * ((zn : Nat) : Int))) - 2) hA hR (by omega) (by omega)) ck_X11_96 (by decide) ⟨Nat.zero_le _, Nat.zero_le _⟩ rfl (Nat.le_of_ble_eq_true rfl) dX11_twice_93 ?_
            refine hv_as ((lo A zn (((((48 * day) + slot) + (2 * ((zn : Nat) : Int))) - 2) / 48) (((((48 * day) + slot) + (2 * ((zn : Nat) : Int))) - 2) % 48))) rfl ?_
            refine hv_nm (fun x1 ex1 => ?_)
            have rx1 : inI x1 := by rw [ex1]; exact (by unfold lo; split <;> omega)
            refine hv_iload C 4 3 dX11_twice_96 rfl ?_
            refine hv_icmp_ne C 104 dX11_twice_98 (by decide) (by omega) (by omega) (fun h98 => ?_) (fun h98 => ?_)
            · skip
              refine hv_iload C 7 0 dX11_twice_104 rfl ?_
              exact zt_iret C hr hlk (by (try simp only [Int.toNat_natCast]); first | exact if_n (by omega) rfl | (refine if_p (by omega) ?_; show _ = 0 + twc A zn day slot (48 * day + slot + 2 * ((zn : Nat) : Int) - 2 + 2 * ((0 : Nat) : Int)) + twc A zn day slot (48 * day + slot + 2 * ((zn : Nat) : Int) - 2 + 2 * ((1 : Nat) : Int)); rw [show 48 * day + slot + 2 * ((zn : Nat) : Int) - 2 + 2 * ((0 : Nat) : Int) = 48 * day + slot + 2 * ((zn : Nat) : Int) - 2 by omega, show 48 * day + slot + 2 * ((zn : Nat) : Int) - 2 + 2 * ((1 : Nat) : Int) = 48 * day + slot + 2 * ((zn : Nat) : Int) by omega]; unfold twc; subst_vars; first | (rw [if_pos ⟨by omega, by omega⟩, if_pos ⟨by omega, by omega⟩]; first | done | rfl | omega) | (rw [if_pos ⟨by omega, by omega⟩, if_neg (fun z9 => by have z8 := z9.1; have z7 := z9.2; omega)]; first | done | rfl | omega) | (rw [if_neg (fun z9 => by have z8 := z9.1; have z7 := z9.2; omega), if_pos ⟨by omega, by omega⟩]; first | done | rfl | omega) | (rw [if_neg (fun z9 => by have z8 := z9.1; have z7 := z9.2; omega), if_neg (fun z9 => by have z8 := z9.1; have z7 := z9.2; omega)]; first | done | rfl | omega))) rfl dX11_twice_106
            · skip
              refine hv_iinc C 7 0 [(7, .int (iz (0 + 1))), (6, .int (iz ((((48 * day) + slot) + (2 * ((zn : Nat) : Int))) - 2))), (5, .int (iz (((48 * day) + slot) + (2 * ((zn : Nat) : Int))))), (4, .int (iz ((48 * day) + slot))), (0, .ref b), (1, .int (iz ((zn : Nat) : Int))), (2, .int (iz day)), (3, .int (iz slot))] dX11_twice_101 rfl (by decide) rfl ?_
              refine hv_iload C 7 0 dX11_twice_104 rfl ?_
              exact zt_iret C hr hlk (by (try simp only [Int.toNat_natCast]); first | exact if_n (by omega) rfl | (refine if_p (by omega) ?_; show _ = 0 + twc A zn day slot (48 * day + slot + 2 * ((zn : Nat) : Int) - 2 + 2 * ((0 : Nat) : Int)) + twc A zn day slot (48 * day + slot + 2 * ((zn : Nat) : Int) - 2 + 2 * ((1 : Nat) : Int)); rw [show 48 * day + slot + 2 * ((zn : Nat) : Int) - 2 + 2 * ((0 : Nat) : Int) = 48 * day + slot + 2 * ((zn : Nat) : Int) - 2 by omega, show 48 * day + slot + 2 * ((zn : Nat) : Int) - 2 + 2 * ((1 : Nat) : Int) = 48 * day + slot + 2 * ((zn : Nat) : Int) by omega]; unfold twc; subst_vars; first | (rw [if_pos ⟨by omega, by omega⟩, if_pos ⟨by omega, by omega⟩]; first | done | rfl | omega) | (rw [if_pos ⟨by omega, by omega⟩, if_neg (fun z9 => by have z8 := z9.1; have z7 := z9.2; omega)]; first | done | rfl | omega) | (rw [if_neg (fun z9 => by have z8 := z9.1; have z7 := z9.2; omega), if_pos ⟨by omega, by omega⟩]; first | done | rfl | omega) | (rw [if_neg (fun z9 => by have z8 := z9.1; have z7 := z9.2; omega), if_neg (fun z9 => by have z8 := z9.1; have z7 := z9.2; omega)]; first | done | rfl | omega))) rfl dX11_twice_106
        · skip
          refine hv_aload_n C 0 4 dX11_twice_60 rfl rfl ?_
          refine zc_get C K (v := .ref (b + 1)) 0 rfl hu_12 (by decide) cw_0 rfl fl_X11_10 rfl dX11_twice_61 ?_
          refine hv_iload_n C 1 5 dX11_twice_64 rfl rfl ?_
          refine hv_iload C 5 2 dX11_twice_65 rfl ?_
          refine zt_callV [.int (iz ((zn : Nat) : Int)), .int (iz (((48 * day) + slot) + (2 * ((zn : Nat) : Int))))] [] C K (cw_at 1 rfl) rfl (k_X8_localPlace l A τ zn (((48 * day) + slot) + (2 * ((zn : Nat) : Int))) hA hR (by omega) (by omega)) ck_X11_96 (by decide) ⟨Nat.zero_le _, Nat.zero_le _⟩ rfl (Nat.le_of_ble_eq_true rfl) dX11_twice_67 ?_
          refine hv_as ((lo A zn ((((48 * day) + slot) + (2 * ((zn : Nat) : Int))) / 48) ((((48 * day) + slot) + (2 * ((zn : Nat) : Int))) % 48))) rfl ?_
          refine hv_nm (fun x2 ex2 => ?_)
          have rx2 : inI x2 := by rw [ex2]; exact (by unfold lo; split <;> omega)
          refine hv_iload C 4 3 dX11_twice_70 rfl ?_
          refine hv_icmp_ne C 78 dX11_twice_72 (by decide) (by omega) (by omega) (fun h72 => ?_) (fun h72 => ?_)
          · skip
            refine hv_iload C 6 1 dX11_twice_78 rfl ?_
            refine zt_callS [.int (iz ((((48 * day) + slot) + (2 * ((zn : Nat) : Int))) - 2))] [] C K (k_X11_isPlace l  τ ((((48 * day) + slot) + (2 * ((zn : Nat) : Int))) - 2) (by omega)) ck_X11_100 (by decide) ⟨Nat.zero_le _, Nat.zero_le _⟩ rfl (Nat.le_of_ble_eq_true rfl) dX11_twice_80 ?_
            refine hv_as (xb (decide (0 ≤ ((((48 * day) + slot) + (2 * ((zn : Nat) : Int))) - 2) ∧ ((((48 * day) + slot) + (2 * ((zn : Nat) : Int))) - 2) ≤ 9599))) rfl ?_
            refine hv_dif_eq C 104 dX11_twice_83 (by decide)  (fun h83 => ?_) (fun h83 => ?_)
            · skip
              refine hv_iload C 7 0 dX11_twice_104 rfl ?_
              exact zt_iret C hr hlk (by (try simp only [Int.toNat_natCast]); first | exact if_n (by omega) rfl | (refine if_p (by omega) ?_; show _ = 0 + twc A zn day slot (48 * day + slot + 2 * ((zn : Nat) : Int) - 2 + 2 * ((0 : Nat) : Int)) + twc A zn day slot (48 * day + slot + 2 * ((zn : Nat) : Int) - 2 + 2 * ((1 : Nat) : Int)); rw [show 48 * day + slot + 2 * ((zn : Nat) : Int) - 2 + 2 * ((0 : Nat) : Int) = 48 * day + slot + 2 * ((zn : Nat) : Int) - 2 by omega, show 48 * day + slot + 2 * ((zn : Nat) : Int) - 2 + 2 * ((1 : Nat) : Int) = 48 * day + slot + 2 * ((zn : Nat) : Int) by omega]; unfold twc; subst_vars; first | (rw [if_pos ⟨by omega, by omega⟩, if_pos ⟨by omega, by omega⟩]; first | done | rfl | omega) | (rw [if_pos ⟨by omega, by omega⟩, if_neg (fun z9 => by have z8 := z9.1; have z7 := z9.2; omega)]; first | done | rfl | omega) | (rw [if_neg (fun z9 => by have z8 := z9.1; have z7 := z9.2; omega), if_pos ⟨by omega, by omega⟩]; first | done | rfl | omega) | (rw [if_neg (fun z9 => by have z8 := z9.1; have z7 := z9.2; omega), if_neg (fun z9 => by have z8 := z9.1; have z7 := z9.2; omega)]; first | done | rfl | omega))) rfl dX11_twice_106
            · skip
              refine hv_aload_n C 0 4 dX11_twice_86 rfl rfl ?_
              refine zc_get C K (v := .ref (b + 1)) 0 rfl hu_12 (by decide) cw_0 rfl fl_X11_10 rfl dX11_twice_87 ?_
              refine hv_iload_n C 1 5 dX11_twice_90 rfl rfl ?_
              refine hv_iload C 6 1 dX11_twice_91 rfl ?_
              refine zt_callV [.int (iz ((zn : Nat) : Int)), .int (iz ((((48 * day) + slot) + (2 * ((zn : Nat) : Int))) - 2))] [] C K (cw_at 1 rfl) rfl (k_X8_localPlace l A τ zn ((((48 * day) + slot) + (2 * ((zn : Nat) : Int))) - 2) hA hR (by omega) (by omega)) ck_X11_96 (by decide) ⟨Nat.zero_le _, Nat.zero_le _⟩ rfl (Nat.le_of_ble_eq_true rfl) dX11_twice_93 ?_
              refine hv_as ((lo A zn (((((48 * day) + slot) + (2 * ((zn : Nat) : Int))) - 2) / 48) (((((48 * day) + slot) + (2 * ((zn : Nat) : Int))) - 2) % 48))) rfl ?_
              refine hv_nm (fun x3 ex3 => ?_)
              have rx3 : inI x3 := by rw [ex3]; exact (by unfold lo; split <;> omega)
              refine hv_iload C 4 3 dX11_twice_96 rfl ?_
              refine hv_icmp_ne C 104 dX11_twice_98 (by decide) (by omega) (by omega) (fun h98 => ?_) (fun h98 => ?_)
              · skip
                refine hv_iload C 7 0 dX11_twice_104 rfl ?_
                exact zt_iret C hr hlk (by (try simp only [Int.toNat_natCast]); first | exact if_n (by omega) rfl | (refine if_p (by omega) ?_; show _ = 0 + twc A zn day slot (48 * day + slot + 2 * ((zn : Nat) : Int) - 2 + 2 * ((0 : Nat) : Int)) + twc A zn day slot (48 * day + slot + 2 * ((zn : Nat) : Int) - 2 + 2 * ((1 : Nat) : Int)); rw [show 48 * day + slot + 2 * ((zn : Nat) : Int) - 2 + 2 * ((0 : Nat) : Int) = 48 * day + slot + 2 * ((zn : Nat) : Int) - 2 by omega, show 48 * day + slot + 2 * ((zn : Nat) : Int) - 2 + 2 * ((1 : Nat) : Int) = 48 * day + slot + 2 * ((zn : Nat) : Int) by omega]; unfold twc; subst_vars; first | (rw [if_pos ⟨by omega, by omega⟩, if_pos ⟨by omega, by omega⟩]; first | done | rfl | omega) | (rw [if_pos ⟨by omega, by omega⟩, if_neg (fun z9 => by have z8 := z9.1; have z7 := z9.2; omega)]; first | done | rfl | omega) | (rw [if_neg (fun z9 => by have z8 := z9.1; have z7 := z9.2; omega), if_pos ⟨by omega, by omega⟩]; first | done | rfl | omega) | (rw [if_neg (fun z9 => by have z8 := z9.1; have z7 := z9.2; omega), if_neg (fun z9 => by have z8 := z9.1; have z7 := z9.2; omega)]; first | done | rfl | omega))) rfl dX11_twice_106
              · skip
                refine hv_iinc C 7 0 [(7, .int (iz (0 + 1))), (6, .int (iz ((((48 * day) + slot) + (2 * ((zn : Nat) : Int))) - 2))), (5, .int (iz (((48 * day) + slot) + (2 * ((zn : Nat) : Int))))), (4, .int (iz ((48 * day) + slot))), (0, .ref b), (1, .int (iz ((zn : Nat) : Int))), (2, .int (iz day)), (3, .int (iz slot))] dX11_twice_101 rfl (by decide) rfl ?_
                refine hv_iload C 7 0 dX11_twice_104 rfl ?_
                exact zt_iret C hr hlk (by (try simp only [Int.toNat_natCast]); first | exact if_n (by omega) rfl | (refine if_p (by omega) ?_; show _ = 0 + twc A zn day slot (48 * day + slot + 2 * ((zn : Nat) : Int) - 2 + 2 * ((0 : Nat) : Int)) + twc A zn day slot (48 * day + slot + 2 * ((zn : Nat) : Int) - 2 + 2 * ((1 : Nat) : Int)); rw [show 48 * day + slot + 2 * ((zn : Nat) : Int) - 2 + 2 * ((0 : Nat) : Int) = 48 * day + slot + 2 * ((zn : Nat) : Int) - 2 by omega, show 48 * day + slot + 2 * ((zn : Nat) : Int) - 2 + 2 * ((1 : Nat) : Int) = 48 * day + slot + 2 * ((zn : Nat) : Int) by omega]; unfold twc; subst_vars; first | (rw [if_pos ⟨by omega, by omega⟩, if_pos ⟨by omega, by omega⟩]; first | done | rfl | omega) | (rw [if_pos ⟨by omega, by omega⟩, if_neg (fun z9 => by have z8 := z9.1; have z7 := z9.2; omega)]; first | done | rfl | omega) | (rw [if_neg (fun z9 => by have z8 := z9.1; have z7 := z9.2; omega), if_pos ⟨by omega, by omega⟩]; first | done | rfl | omega) | (rw [if_neg (fun z9 => by have z8 := z9.1; have z7 := z9.2; omega), if_neg (fun z9 => by have z8 := z9.1; have z7 := z9.2; omega)]; first | done | rfl | omega))) rfl dX11_twice_106
          · skip
            refine hv_iinc C 7 0 [(7, .int (iz (0 + 1))), (6, .int (iz ((((48 * day) + slot) + (2 * ((zn : Nat) : Int))) - 2))), (5, .int (iz (((48 * day) + slot) + (2 * ((zn : Nat) : Int))))), (4, .int (iz ((48 * day) + slot))), (0, .ref b), (1, .int (iz ((zn : Nat) : Int))), (2, .int (iz day)), (3, .int (iz slot))] dX11_twice_75 rfl (by decide) rfl ?_
            refine hv_iload C 6 1 dX11_twice_78 rfl ?_
            refine zt_callS [.int (iz ((((48 * day) + slot) + (2 * ((zn : Nat) : Int))) - 2))] [] C K (k_X11_isPlace l  τ ((((48 * day) + slot) + (2 * ((zn : Nat) : Int))) - 2) (by omega)) ck_X11_100 (by decide) ⟨Nat.zero_le _, Nat.zero_le _⟩ rfl (Nat.le_of_ble_eq_true rfl) dX11_twice_80 ?_
            refine hv_as (xb (decide (0 ≤ ((((48 * day) + slot) + (2 * ((zn : Nat) : Int))) - 2) ∧ ((((48 * day) + slot) + (2 * ((zn : Nat) : Int))) - 2) ≤ 9599))) rfl ?_
            refine hv_dif_eq C 104 dX11_twice_83 (by decide)  (fun h83 => ?_) (fun h83 => ?_)
            · skip
              refine hv_iload C 7 0 dX11_twice_104 rfl ?_
              exact zt_iret C hr hlk (by (try simp only [Int.toNat_natCast]); first | exact if_n (by omega) rfl | (refine if_p (by omega) ?_; show _ = 0 + twc A zn day slot (48 * day + slot + 2 * ((zn : Nat) : Int) - 2 + 2 * ((0 : Nat) : Int)) + twc A zn day slot (48 * day + slot + 2 * ((zn : Nat) : Int) - 2 + 2 * ((1 : Nat) : Int)); rw [show 48 * day + slot + 2 * ((zn : Nat) : Int) - 2 + 2 * ((0 : Nat) : Int) = 48 * day + slot + 2 * ((zn : Nat) : Int) - 2 by omega, show 48 * day + slot + 2 * ((zn : Nat) : Int) - 2 + 2 * ((1 : Nat) : Int) = 48 * day + slot + 2 * ((zn : Nat) : Int) by omega]; unfold twc; subst_vars; first | (rw [if_pos ⟨by omega, by omega⟩, if_pos ⟨by omega, by omega⟩]; first | done | rfl | omega) | (rw [if_pos ⟨by omega, by omega⟩, if_neg (fun z9 => by have z8 := z9.1; have z7 := z9.2; omega)]; first | done | rfl | omega) | (rw [if_neg (fun z9 => by have z8 := z9.1; have z7 := z9.2; omega), if_pos ⟨by omega, by omega⟩]; first | done | rfl | omega) | (rw [if_neg (fun z9 => by have z8 := z9.1; have z7 := z9.2; omega), if_neg (fun z9 => by have z8 := z9.1; have z7 := z9.2; omega)]; first | done | rfl | omega))) rfl dX11_twice_106
            · skip
              refine hv_aload_n C 0 4 dX11_twice_86 rfl rfl ?_
              refine zc_get C K (v := .ref (b + 1)) 0 rfl hu_12 (by decide) cw_0 rfl fl_X11_10 rfl dX11_twice_87 ?_
              refine hv_iload_n C 1 5 dX11_twice_90 rfl rfl ?_
              refine hv_iload C 6 1 dX11_twice_91 rfl ?_
              refine zt_callV [.int (iz ((zn : Nat) : Int)), .int (iz ((((48 * day) + slot) + (2 * ((zn : Nat) : Int))) - 2))] [] C K (cw_at 1 rfl) rfl (k_X8_localPlace l A τ zn ((((48 * day) + slot) + (2 * ((zn : Nat) : Int))) - 2) hA hR (by omega) (by omega)) ck_X11_96 (by decide) ⟨Nat.zero_le _, Nat.zero_le _⟩ rfl (Nat.le_of_ble_eq_true rfl) dX11_twice_93 ?_
              refine hv_as ((lo A zn (((((48 * day) + slot) + (2 * ((zn : Nat) : Int))) - 2) / 48) (((((48 * day) + slot) + (2 * ((zn : Nat) : Int))) - 2) % 48))) rfl ?_
              refine hv_nm (fun x4 ex4 => ?_)
              have rx4 : inI x4 := by rw [ex4]; exact (by unfold lo; split <;> omega)
              refine hv_iload C 4 3 dX11_twice_96 rfl ?_
              refine hv_icmp_ne C 104 dX11_twice_98 (by decide) (by omega) (by omega) (fun h98 => ?_) (fun h98 => ?_)
              · skip
                refine hv_iload C 7 0 dX11_twice_104 rfl ?_
                exact zt_iret C hr hlk (by (try simp only [Int.toNat_natCast]); first | exact if_n (by omega) rfl | (refine if_p (by omega) ?_; show _ = 0 + twc A zn day slot (48 * day + slot + 2 * ((zn : Nat) : Int) - 2 + 2 * ((0 : Nat) : Int)) + twc A zn day slot (48 * day + slot + 2 * ((zn : Nat) : Int) - 2 + 2 * ((1 : Nat) : Int)); rw [show 48 * day + slot + 2 * ((zn : Nat) : Int) - 2 + 2 * ((0 : Nat) : Int) = 48 * day + slot + 2 * ((zn : Nat) : Int) - 2 by omega, show 48 * day + slot + 2 * ((zn : Nat) : Int) - 2 + 2 * ((1 : Nat) : Int) = 48 * day + slot + 2 * ((zn : Nat) : Int) by omega]; unfold twc; subst_vars; first | (rw [if_pos ⟨by omega, by omega⟩, if_pos ⟨by omega, by omega⟩]; first | done | rfl | omega) | (rw [if_pos ⟨by omega, by omega⟩, if_neg (fun z9 => by have z8 := z9.1; have z7 := z9.2; omega)]; first | done | rfl | omega) | (rw [if_neg (fun z9 => by have z8 := z9.1; have z7 := z9.2; omega), if_pos ⟨by omega, by omega⟩]; first | done | rfl | omega) | (rw [if_neg (fun z9 => by have z8 := z9.1; have z7 := z9.2; omega), if_neg (fun z9 => by have z8 := z9.1; have z7 := z9.2; omega)]; first | done | rfl | omega))) rfl dX11_twice_106
              · skip
                refine hv_iinc C 7 0 [(7, .int (iz ((0 + 1) + 1))), (6, .int (iz ((((48 * day) + slot) + (2 * ((zn : Nat) : Int))) - 2))), (5, .int (iz (((48 * day) + slot) + (2 * ((zn : Nat) : Int))))), (4, .int (iz ((48 * day) + slot))), (0, .ref b), (1, .int (iz ((zn : Nat) : Int))), (2, .int (iz day)), (3, .int (iz slot))] dX11_twice_101 rfl (by decide) rfl ?_
                refine hv_iload C 7 0 dX11_twice_104 rfl ?_
                exact zt_iret C hr hlk (by (try simp only [Int.toNat_natCast]); first | exact if_n (by omega) rfl | (refine if_p (by omega) ?_; show _ = 0 + twc A zn day slot (48 * day + slot + 2 * ((zn : Nat) : Int) - 2 + 2 * ((0 : Nat) : Int)) + twc A zn day slot (48 * day + slot + 2 * ((zn : Nat) : Int) - 2 + 2 * ((1 : Nat) : Int)); rw [show 48 * day + slot + 2 * ((zn : Nat) : Int) - 2 + 2 * ((0 : Nat) : Int) = 48 * day + slot + 2 * ((zn : Nat) : Int) - 2 by omega, show 48 * day + slot + 2 * ((zn : Nat) : Int) - 2 + 2 * ((1 : Nat) : Int) = 48 * day + slot + 2 * ((zn : Nat) : Int) by omega]; unfold twc; subst_vars; first | (rw [if_pos ⟨by omega, by omega⟩, if_pos ⟨by omega, by omega⟩]; first | done | rfl | omega) | (rw [if_pos ⟨by omega, by omega⟩, if_neg (fun z9 => by have z8 := z9.1; have z7 := z9.2; omega)]; first | done | rfl | omega) | (rw [if_neg (fun z9 => by have z8 := z9.1; have z7 := z9.2; omega), if_pos ⟨by omega, by omega⟩]; first | done | rfl | omega) | (rw [if_neg (fun z9 => by have z8 := z9.1; have z7 := z9.2; omega), if_neg (fun z9 => by have z8 := z9.1; have z7 := z9.2; omega)]; first | done | rfl | omega))) rfl dX11_twice_106
      · skip
        refine hv_iconst C dX11_twice_25 ?_
        exact zt_iret C hr hlk (by (try simp only [Int.toNat_natCast]); first | exact if_n (by omega) rfl | (refine if_p (by omega) ?_; show _ = 0 + twc A zn day slot (48 * day + slot + 2 * ((zn : Nat) : Int) - 2 + 2 * ((0 : Nat) : Int)) + twc A zn day slot (48 * day + slot + 2 * ((zn : Nat) : Int) - 2 + 2 * ((1 : Nat) : Int)); rw [show 48 * day + slot + 2 * ((zn : Nat) : Int) - 2 + 2 * ((0 : Nat) : Int) = 48 * day + slot + 2 * ((zn : Nat) : Int) - 2 by omega, show 48 * day + slot + 2 * ((zn : Nat) : Int) - 2 + 2 * ((1 : Nat) : Int) = 48 * day + slot + 2 * ((zn : Nat) : Int) by omega]; unfold twc; subst_vars; first | (rw [if_pos ⟨by omega, by omega⟩, if_pos ⟨by omega, by omega⟩]; first | done | rfl | omega) | (rw [if_pos ⟨by omega, by omega⟩, if_neg (fun z9 => by have z8 := z9.1; have z7 := z9.2; omega)]; first | done | rfl | omega) | (rw [if_neg (fun z9 => by have z8 := z9.1; have z7 := z9.2; omega), if_pos ⟨by omega, by omega⟩]; first | done | rfl | omega) | (rw [if_neg (fun z9 => by have z8 := z9.1; have z7 := z9.2; omega), if_neg (fun z9 => by have z8 := z9.1; have z7 := z9.2; omega)]; first | done | rfl | omega))) rfl dX11_twice_26
theorem dX11_member_0 : decode cX11_member 0 = .ok (.aload_n 0, 1) := by decide +kernel
theorem dX11_member_1 : decode cX11_member 1 = .ok (.iload_n 1, 1) := by decide +kernel
theorem dX11_member_2 : decode cX11_member 2 = .ok (.invokevirtual 112, 3) := by decide +kernel
theorem dX11_member_5 : decode cX11_member 5 = .ok (.ifCond .eq 10, 3) := by decide +kernel
theorem dX11_member_8 : decode cX11_member 8 = .ok (.iload_n 2, 1) := by decide +kernel
theorem dX11_member_9 : decode cX11_member 9 = .ok (.invokestatic 86, 3) := by decide +kernel
theorem dX11_member_12 : decode cX11_member 12 = .ok (.ifCond .ne 5, 3) := by decide +kernel
theorem dX11_member_15 : decode cX11_member 15 = .ok (.iconst (-1), 1) := by decide +kernel
theorem dX11_member_16 : decode cX11_member 16 = .ok (.ireturn, 1) := by decide +kernel
theorem dX11_member_17 : decode cX11_member 17 = .ok (.aload_n 0, 1) := by decide +kernel
theorem dX11_member_18 : decode cX11_member 18 = .ok (.getfield 10, 3) := by decide +kernel
theorem dX11_member_21 : decode cX11_member 21 = .ok (.iload_n 1, 1) := by decide +kernel
theorem dX11_member_22 : decode cX11_member 22 = .ok (.iload_n 2, 1) := by decide +kernel
theorem dX11_member_23 : decode cX11_member 23 = .ok (.invokevirtual 121, 3) := by decide +kernel
theorem dX11_member_26 : decode cX11_member 26 = .ok (.ireturn, 1) := by decide +kernel
theorem ck_X11_112 : zcV RX11 RX11 yX11_isStation cX11_isStation 2 (some .boolean) 112 1 := ⟨hk_tq3 25 (by decide +kernel) (by decide +kernel), hk_tq3 22 (by decide +kernel) (by decide +kernel), hk_tq1 1 (by decide +kernel) (by decide +kernel), ⟨by decide, by decide, by decide +kernel⟩, hk_tq3 24 (by decide +kernel) (by decide +kernel), hk_s 5 (by decide +kernel) (by decide +kernel)⟩
theorem ck_X11_121 : zcV RX11 RX8 yX8_networkOn cX8_networkOn 7 (some .int) 121 2 := ⟨hk_tq3 59 (by decide +kernel) (by decide +kernel), hk_tq3 56 (by decide +kernel) (by decide +kernel), hk_tq1 2 (by decide +kernel) (by decide +kernel), ⟨by decide, by decide, by decide +kernel⟩, hk_tq3 57 (by decide +kernel) (by decide +kernel), hk_tq3 58 (by decide +kernel) (by decide +kernel)⟩
set_option maxRecDepth 100000 in
set_option maxHeartbeats 4000000 in
theorem k_X11_member (l : Launch) {D : va_G} {ar : Nat → ClassId} {B : Nat → Prop} {b n : Nat} {w0 : zcW} (A : Nat → Int) (τ : Nat → Nat → Int) (st : Int) (d : Int) (hA : ∀ i, inI (A i)) (hR : Rel9 ar b w0 A τ) (hm : mI A) (hc : cn A) (r_st : inI st) (r_d : inI d) : zt_M l D ar B b w0 n yX11_member cX11_member 3 (some .int) 4 90 [.ref b, .int (iz st), .int (iz d)] τ (some (.int (iz (if (0 ≤ st ∧ st ≤ A 2 - 1) ∧ (0 ≤ d ∧ d ≤ 199) then member A st d else -1)))) (τ) := by
  refine zc_start (own := RX11) (by decide +kernel) rfl (Nat.le_of_ble_eq_true rfl) ?_
  intro p e s m args below meth c C K hr hlk hnam
  refine hv_aload_n C 0 0 dX11_member_0 rfl rfl ?_
  refine hv_iload_n C 1 1 dX11_member_1 rfl rfl ?_
  refine zt_callV [.int (iz st)] [] C K cw_0 rfl (k_X11_isStation l A τ st hA hR (by omega) hc) ck_X11_112 (by decide) ⟨Nat.zero_le _, Nat.zero_le _⟩ rfl (Nat.le_of_ble_eq_true rfl) dX11_member_2 ?_
  refine hv_as (xb (decide (0 ≤ st ∧ st ≤ A 2 - 1))) rfl ?_
  refine hv_dif_eq C 15 dX11_member_5 (by decide)  (fun h5 => ?_) (fun h5 => ?_)
  · skip
    refine hv_iconst C dX11_member_15 ?_
    exact zt_iret C hr hlk (by first | exact if_n (by omega) rfl | exact if_p (by omega) rfl | (refine if_p (by omega) ?_; assumption)) rfl dX11_member_16
  · skip
    refine hv_iload_n C 2 2 dX11_member_8 rfl rfl ?_
    refine zt_callS [.int (iz d)] [] C K (k_X11_isDay l  τ d (by omega)) ck_X11_86 (by decide) ⟨Nat.zero_le _, Nat.zero_le _⟩ rfl (Nat.le_of_ble_eq_true rfl) dX11_member_9 ?_
    refine hv_as (xb (decide (0 ≤ d ∧ d ≤ 199))) rfl ?_
    refine hv_dif_ne C 17 dX11_member_12 (by decide)  (fun h12 => ?_) (fun h12 => ?_)
    · skip
      refine hv_aload_n C 0 0 dX11_member_17 rfl rfl ?_
      refine zc_get C K (v := .ref (b + 1)) 0 rfl hu_12 (by decide) cw_0 rfl fl_X11_10 rfl dX11_member_18 ?_
      refine hv_iload_n C 1 1 dX11_member_21 rfl rfl ?_
      refine hv_iload_n C 2 2 dX11_member_22 rfl rfl ?_
      refine zt_callV [.int (iz st), .int (iz d)] [] C K (cw_at 1 rfl) rfl (k_X8_networkOn l A τ st d hA hR (by omega) hc (by omega) (by omega)) ck_X11_121 (by decide) ⟨Nat.zero_le _, Nat.zero_le _⟩ rfl (Nat.le_of_ble_eq_true rfl) dX11_member_23 ?_
      refine hv_as ((member A st d)) rfl ?_
      refine hv_nm (fun x1 ex1 => ?_)
      exact zt_iret C hr hlk (by first | exact if_n (by omega) rfl | exact if_p (by omega) rfl | (refine if_p (by omega) ?_; assumption)) rfl dX11_member_26
    · skip
      refine hv_iconst C dX11_member_15 ?_
      exact zt_iret C hr hlk (by first | exact if_n (by omega) rfl | exact if_p (by omega) rfl | (refine if_p (by omega) ?_; assumption)) rfl dX11_member_16
theorem dX11_about_0 : decode cX11_about 0 = .ok (.iload_n 1, 1) := by decide +kernel
theorem dX11_about_1 : decode cX11_about 1 = .ok (.iconst 0, 1) := by decide +kernel
theorem dX11_about_2 : decode cX11_about 2 = .ok (.aload_n 0, 1) := by decide +kernel
theorem dX11_about_3 : decode cX11_about 3 = .ok (.getfield 10, 3) := by decide +kernel
theorem dX11_about_6 : decode cX11_about 6 = .ok (.getfield 124, 3) := by decide +kernel
theorem dX11_about_9 : decode cX11_about 9 = .ok (.invokevirtual 52, 3) := by decide +kernel
theorem dX11_about_12 : decode cX11_about 12 = .ok (.iconst 1, 1) := by decide +kernel
theorem dX11_about_13 : decode cX11_about 13 = .ok (.isub, 1) := by decide +kernel
theorem dX11_about_14 : decode cX11_about 14 = .ok (.invokestatic 62, 3) := by decide +kernel
theorem dX11_about_17 : decode cX11_about 17 = .ok (.ifCond .ne 6, 3) := by decide +kernel
theorem dX11_about_20 : decode cX11_about 20 = .ok (.bipush (-2), 2) := by decide +kernel
theorem dX11_about_22 : decode cX11_about 22 = .ok (.ireturn, 1) := by decide +kernel
theorem dX11_about_23 : decode cX11_about 23 = .ok (.aload_n 0, 1) := by decide +kernel
theorem dX11_about_24 : decode cX11_about 24 = .ok (.getfield 10, 3) := by decide +kernel
theorem dX11_about_27 : decode cX11_about 27 = .ok (.getfield 124, 3) := by decide +kernel
theorem dX11_about_30 : decode cX11_about 30 = .ok (.iload_n 1, 1) := by decide +kernel
theorem dX11_about_31 : decode cX11_about 31 = .ok (.invokevirtual 146, 3) := by decide +kernel
theorem dX11_about_34 : decode cX11_about 34 = .ok (.checkcast 130, 3) := by decide +kernel
theorem dX11_about_37 : decode cX11_about 37 = .ok (.astore_n 3, 1) := by decide +kernel
theorem dX11_about_38 : decode cX11_about 38 = .ok (.iload_n 2, 1) := by decide +kernel
theorem dX11_about_39 : decode cX11_about 39 = .ok (.tableswitch 91 0 7 #[45, 50, 58, 66, 71, 76, 81, 86], 45) := by decide +kernel
theorem dX11_about_84 : decode cX11_about 84 = .ok (.aload_n 3, 1) := by decide +kernel
theorem dX11_about_85 : decode cX11_about 85 = .ok (.getfield 150, 3) := by decide +kernel
theorem dX11_about_88 : decode cX11_about 88 = .ok (.ireturn, 1) := by decide +kernel
theorem dX11_about_89 : decode cX11_about 89 = .ok (.aload_n 3, 1) := by decide +kernel
theorem dX11_about_90 : decode cX11_about 90 = .ok (.getfield 153, 3) := by decide +kernel
theorem dX11_about_93 : decode cX11_about 93 = .ok (.bipush 48, 2) := by decide +kernel
theorem dX11_about_95 : decode cX11_about 95 = .ok (.idiv, 1) := by decide +kernel
theorem dX11_about_96 : decode cX11_about 96 = .ok (.ireturn, 1) := by decide +kernel
theorem dX11_about_97 : decode cX11_about 97 = .ok (.aload_n 3, 1) := by decide +kernel
theorem dX11_about_98 : decode cX11_about 98 = .ok (.getfield 153, 3) := by decide +kernel
theorem dX11_about_101 : decode cX11_about 101 = .ok (.bipush 48, 2) := by decide +kernel
theorem dX11_about_103 : decode cX11_about 103 = .ok (.irem, 1) := by decide +kernel
theorem dX11_about_104 : decode cX11_about 104 = .ok (.ireturn, 1) := by decide +kernel
theorem dX11_about_105 : decode cX11_about 105 = .ok (.aload_n 3, 1) := by decide +kernel
theorem dX11_about_106 : decode cX11_about 106 = .ok (.getfield 156, 3) := by decide +kernel
theorem dX11_about_109 : decode cX11_about 109 = .ok (.ireturn, 1) := by decide +kernel
theorem dX11_about_110 : decode cX11_about 110 = .ok (.aload_n 3, 1) := by decide +kernel
theorem dX11_about_111 : decode cX11_about 111 = .ok (.getfield 159, 3) := by decide +kernel
theorem dX11_about_114 : decode cX11_about 114 = .ok (.ireturn, 1) := by decide +kernel
theorem dX11_about_115 : decode cX11_about 115 = .ok (.aload_n 3, 1) := by decide +kernel
theorem dX11_about_116 : decode cX11_about 116 = .ok (.getfield 162, 3) := by decide +kernel
theorem dX11_about_119 : decode cX11_about 119 = .ok (.ireturn, 1) := by decide +kernel
theorem dX11_about_120 : decode cX11_about 120 = .ok (.aload_n 3, 1) := by decide +kernel
theorem dX11_about_121 : decode cX11_about 121 = .ok (.getfield 165, 3) := by decide +kernel
theorem dX11_about_124 : decode cX11_about 124 = .ok (.ireturn, 1) := by decide +kernel
theorem dX11_about_125 : decode cX11_about 125 = .ok (.aload_n 3, 1) := by decide +kernel
theorem dX11_about_126 : decode cX11_about 126 = .ok (.getfield 167, 3) := by decide +kernel
theorem dX11_about_129 : decode cX11_about 129 = .ok (.ireturn, 1) := by decide +kernel
theorem dX11_about_130 : decode cX11_about 130 = .ok (.bipush (-2), 2) := by decide +kernel
theorem dX11_about_132 : decode cX11_about 132 = .ok (.ireturn, 1) := by decide +kernel
theorem fl_X11_150 : Cond.fieldLink RX11 150 "HookUps$Hour" (TX3 0).2.1 (TX3 0).2.2.1 ∈ hk_tb := hk_tq3 95 (by decide +kernel) (by decide +kernel)
theorem fl_X11_153 : Cond.fieldLink RX11 153 "HookUps$Hour" (TX3 1).2.1 (TX3 1).2.2.1 ∈ hk_tb := hk_tq3 98 (by decide +kernel) (by decide +kernel)
theorem fl_X11_159 : Cond.fieldLink RX11 159 "HookUps$Hour" (TX3 3).2.1 (TX3 3).2.2.1 ∈ hk_tb := hk_tq3 104 (by decide +kernel) (by decide +kernel)
theorem fl_X11_162 : Cond.fieldLink RX11 162 "HookUps$Hour" (TX3 4).2.1 (TX3 4).2.2.1 ∈ hk_tb := hk_tq3 107 (by decide +kernel) (by decide +kernel)
theorem fl_X11_165 : Cond.fieldLink RX11 165 "HookUps$Hour" (TX3 5).2.1 (TX3 5).2.2.1 ∈ hk_tb := hk_tq3 110 (by decide +kernel) (by decide +kernel)
set_option maxRecDepth 100000 in
set_option maxHeartbeats 4000000 in
theorem k_X11_about (l : Launch) {D : va_G} {ar : Nat → ClassId} {B : Nat → Prop} {b n : Nat} {w0 : zcW} (A : Nat → Int) (τ : Nat → Nat → Int) (h : Int) (what : Int) (hA : ∀ i, inI (A i)) (hR : Rel9 ar b w0 A τ) (hh : hi A) (hc : cn A) (r_h : inI h) (r_what : inI what) : zt_M l D ar B b w0 n yX11_about cX11_about 4 (some .int) 3 64 [.ref b, .int (iz h), .int (iz what)] τ (some (.int (iz (if (0 ≤ h ∧ h ≤ A 4 - 1) ∧ (0 ≤ what ∧ what ≤ 7) then A (280 + 8 * h.toNat + what.toNat) else -2)))) (τ) := by
  refine zc_start (own := RX11) (by decide +kernel) rfl (Nat.le_of_ble_eq_true rfl) ?_
  intro p e s m args below meth c C K hr hlk hnam
  have n7 := hR.l7.1
  refine hv_iload_n C 1 1 dX11_about_0 rfl rfl ?_
  refine hv_iconst C dX11_about_1 ?_
  refine hv_aload_n C 0 0 dX11_about_2 rfl rfl ?_
  refine zc_get C K (v := .ref (b + 1)) 0 rfl hu_12 (by decide) cw_0 rfl fl_X11_10 rfl dX11_about_3 ?_
  refine zc_get C K (v := .ref (b + 7)) 6 rfl hu_9 (by decide) (cw_at 1 rfl) rfl fl_X11_124 rfl dX11_about_6 ?_
  refine zt_callV [] [.int (iz 0), .int (iz h)] C K (cw_at 7 rfl) rfl (k_Jx4a65c_size_8abf5 l 7 τ  rfl) ck_X11_52 (by decide) ⟨Nat.zero_le _, Nat.zero_le _⟩ rfl (Nat.le_of_ble_eq_true rfl) dX11_about_9 ?_
  refine hv_as ((τ 7 2)) rfl ?_
  refine hv_nm (fun x1 ex1 => ?_)
  have rx1 : inI x1 := by rw [ex1]; exact (by have z := hA 4; omega)
  refine hv_iconst C dX11_about_12 ?_
  refine hv_isub C dX11_about_13 ?_
  refine zt_callS [.int (iz h), .int (iz 0), .int (iz (x1 - 1))] [] C K (k_X11_within l  τ h 0 (x1 - 1) (by omega) (by omega) (by omega)) ck_X11_62 (by decide) ⟨Nat.zero_le _, Nat.zero_le _⟩ rfl (Nat.le_of_ble_eq_true rfl) dX11_about_14 ?_
  refine hv_as (xb (decide (0 ≤ h ∧ h ≤ (x1 - 1)))) rfl ?_
  refine hv_dif_ne C 23 dX11_about_17 (by decide)  (fun h17 => ?_) (fun h17 => ?_)
  · skip
    obtain ⟨hn, rfl⟩ : ∃ n9 : Nat, h = (n9 : Int) := ⟨(h).toNat, by omega⟩
    have hhk := hh hn (by omega)
    refine hv_aload_n C 0 0 dX11_about_23 rfl rfl ?_
    refine zc_get C K (v := .ref (b + 1)) 0 rfl hu_12 (by decide) cw_0 rfl fl_X11_10 rfl dX11_about_24 ?_
    refine zc_get C K (v := .ref (b + 7)) 6 rfl hu_9 (by decide) (cw_at 1 rfl) rfl fl_X11_124 rfl dX11_about_27 ?_
    refine hv_iload_n C 1 1 dX11_about_30 rfl rfl ?_
    obtain ⟨p2, i2, o2⟩ := (hR : Rel9 ar b w0 A τ).l7.2 hn (by omega)
    refine zt_callV [.int (iz ((hn : Nat) : Int))] [] C K (cw_at 7 rfl) rfl (k_Jx4a65c_get_915e3 l 7 p2 τ hn rfl i2) ck_X11_146 (by decide) ⟨Nat.zero_le _, Nat.zero_le _⟩ rfl (Nat.le_of_ble_eq_true rfl) dX11_about_31 ?_
    refine zc_cast C K (cw_ob o2) (hc := rfl) cl_X11_130 dX11_about_34 ?_
    refine hv_astore_n C 3 [(3, .ref p2), (0, .ref b), (1, .int (iz ((hn : Nat) : Int))), (2, .int (iz what))] dX11_about_37 rfl (by decide) rfl ?_
    refine hv_iload_n C 2 3 dX11_about_38 rfl rfl ?_
    rcases (by omega : what = 0 ∨ what = 1 ∨ what = 2 ∨ what = 3 ∨ what = 4 ∨ what = 5 ∨ what = 6 ∨ what = 7 ∨ (what < 0 ∨ 7 < what)) with q | q | q | q | q | q | q | q | q
    · subst q
      refine hv_tableIn C 84 ⟨by decide, by decide⟩ dX11_about_39 (by decide) (by decide) rfl (by decide) ?_
      refine hv_aload_n C 3 0 dX11_about_84 rfl rfl ?_
      refine zc_get C K (v := .int (iz (A (280 + 8 * hn + 0)))) 0 rfl hu_4 (by decide) (cw_ob o2) rfl fl_X11_150 rfl dX11_about_85 ?_
      refine hv_nm (fun x3 ex3 => ?_)
      have rx3 : inI x3 := by rw [ex3]; exact (hA _)
      exact zt_iret C hr hlk (by first | exact if_n (by omega) rfl | (refine if_p (by omega) ?_; (try simp only [Int.toNat_natCast]); first | (show _ = A (280 + 8 * hn + 0); omega) | (show _ = A (280 + 8 * hn + 1); omega) | (show _ = A (280 + 8 * hn + 2); omega) | (show _ = A (280 + 8 * hn + 3); omega) | (show _ = A (280 + 8 * hn + 4); omega) | (show _ = A (280 + 8 * hn + 5); omega) | (show _ = A (280 + 8 * hn + 6); omega) | (show _ = A (280 + 8 * hn + 7); omega))) rfl dX11_about_88
    · subst q
      refine hv_tableIn C 89 ⟨by decide, by decide⟩ dX11_about_39 (by decide) (by decide) rfl (by decide) ?_
      refine hv_aload_n C 3 0 dX11_about_89 rfl rfl ?_
      refine zc_get C K (v := .int (iz ((48 * (A (280 + 8 * hn + 1))) + (A (280 + 8 * hn + 2))))) 1 rfl hu_4 (by decide) (cw_ob o2) rfl fl_X11_153 rfl dX11_about_90 ?_
      refine hv_bipush C dX11_about_93 (by decide) ?_
      refine hv_idiv C (by omega) (by omega) (by omega) (by omega) dX11_about_95 ?_
      exact zt_iret C hr hlk (by first | exact if_n (by omega) rfl | (refine if_p (by omega) ?_; (try simp only [Int.toNat_natCast]); first | (show _ = A (280 + 8 * hn + 0); omega) | (show _ = A (280 + 8 * hn + 1); omega) | (show _ = A (280 + 8 * hn + 2); omega) | (show _ = A (280 + 8 * hn + 3); omega) | (show _ = A (280 + 8 * hn + 4); omega) | (show _ = A (280 + 8 * hn + 5); omega) | (show _ = A (280 + 8 * hn + 6); omega) | (show _ = A (280 + 8 * hn + 7); omega))) rfl dX11_about_96
    · subst q
      refine hv_tableIn C 97 ⟨by decide, by decide⟩ dX11_about_39 (by decide) (by decide) rfl (by decide) ?_
      refine hv_aload_n C 3 0 dX11_about_97 rfl rfl ?_
      refine zc_get C K (v := .int (iz ((48 * (A (280 + 8 * hn + 1))) + (A (280 + 8 * hn + 2))))) 1 rfl hu_4 (by decide) (cw_ob o2) rfl fl_X11_153 rfl dX11_about_98 ?_
      refine hv_bipush C dX11_about_101 (by decide) ?_
      refine hv_irem C (by omega) (by omega) (by omega) (by omega) dX11_about_103 ?_
      exact zt_iret C hr hlk (by first | exact if_n (by omega) rfl | (refine if_p (by omega) ?_; (try simp only [Int.toNat_natCast]); first | (show _ = A (280 + 8 * hn + 0); omega) | (show _ = A (280 + 8 * hn + 1); omega) | (show _ = A (280 + 8 * hn + 2); omega) | (show _ = A (280 + 8 * hn + 3); omega) | (show _ = A (280 + 8 * hn + 4); omega) | (show _ = A (280 + 8 * hn + 5); omega) | (show _ = A (280 + 8 * hn + 6); omega) | (show _ = A (280 + 8 * hn + 7); omega))) rfl dX11_about_104
    · subst q
      refine hv_tableIn C 105 ⟨by decide, by decide⟩ dX11_about_39 (by decide) (by decide) rfl (by decide) ?_
      refine hv_aload_n C 3 0 dX11_about_105 rfl rfl ?_
      refine zc_get C K (v := .int (iz (A (280 + 8 * hn + 3)))) 2 rfl hu_4 (by decide) (cw_ob o2) rfl fl_X11_156 rfl dX11_about_106 ?_
      refine hv_nm (fun x4 ex4 => ?_)
      have rx4 : inI x4 := by rw [ex4]; exact (hA _)
      exact zt_iret C hr hlk (by first | exact if_n (by omega) rfl | (refine if_p (by omega) ?_; (try simp only [Int.toNat_natCast]); first | (show _ = A (280 + 8 * hn + 0); omega) | (show _ = A (280 + 8 * hn + 1); omega) | (show _ = A (280 + 8 * hn + 2); omega) | (show _ = A (280 + 8 * hn + 3); omega) | (show _ = A (280 + 8 * hn + 4); omega) | (show _ = A (280 + 8 * hn + 5); omega) | (show _ = A (280 + 8 * hn + 6); omega) | (show _ = A (280 + 8 * hn + 7); omega))) rfl dX11_about_109
    · subst q
      refine hv_tableIn C 110 ⟨by decide, by decide⟩ dX11_about_39 (by decide) (by decide) rfl (by decide) ?_
      refine hv_aload_n C 3 0 dX11_about_110 rfl rfl ?_
      refine zc_get C K (v := .int (iz (A (280 + 8 * hn + 4)))) 3 rfl hu_4 (by decide) (cw_ob o2) rfl fl_X11_159 rfl dX11_about_111 ?_
      refine hv_nm (fun x5 ex5 => ?_)
      have rx5 : inI x5 := by rw [ex5]; exact (hA _)
      exact zt_iret C hr hlk (by first | exact if_n (by omega) rfl | (refine if_p (by omega) ?_; (try simp only [Int.toNat_natCast]); first | (show _ = A (280 + 8 * hn + 0); omega) | (show _ = A (280 + 8 * hn + 1); omega) | (show _ = A (280 + 8 * hn + 2); omega) | (show _ = A (280 + 8 * hn + 3); omega) | (show _ = A (280 + 8 * hn + 4); omega) | (show _ = A (280 + 8 * hn + 5); omega) | (show _ = A (280 + 8 * hn + 6); omega) | (show _ = A (280 + 8 * hn + 7); omega))) rfl dX11_about_114
    · subst q
      refine hv_tableIn C 115 ⟨by decide, by decide⟩ dX11_about_39 (by decide) (by decide) rfl (by decide) ?_
      refine hv_aload_n C 3 0 dX11_about_115 rfl rfl ?_
      refine zc_get C K (v := .int (iz (A (280 + 8 * hn + 5)))) 4 rfl hu_4 (by decide) (cw_ob o2) rfl fl_X11_162 rfl dX11_about_116 ?_
      refine hv_nm (fun x6 ex6 => ?_)
      have rx6 : inI x6 := by rw [ex6]; exact (hA _)
      exact zt_iret C hr hlk (by first | exact if_n (by omega) rfl | (refine if_p (by omega) ?_; (try simp only [Int.toNat_natCast]); first | (show _ = A (280 + 8 * hn + 0); omega) | (show _ = A (280 + 8 * hn + 1); omega) | (show _ = A (280 + 8 * hn + 2); omega) | (show _ = A (280 + 8 * hn + 3); omega) | (show _ = A (280 + 8 * hn + 4); omega) | (show _ = A (280 + 8 * hn + 5); omega) | (show _ = A (280 + 8 * hn + 6); omega) | (show _ = A (280 + 8 * hn + 7); omega))) rfl dX11_about_119
    · subst q
      refine hv_tableIn C 120 ⟨by decide, by decide⟩ dX11_about_39 (by decide) (by decide) rfl (by decide) ?_
      refine hv_aload_n C 3 0 dX11_about_120 rfl rfl ?_
      refine zc_get C K (v := .int (iz (A (280 + 8 * hn + 6)))) 5 rfl hu_4 (by decide) (cw_ob o2) rfl fl_X11_165 rfl dX11_about_121 ?_
      refine hv_nm (fun x7 ex7 => ?_)
      have rx7 : inI x7 := by rw [ex7]; exact (hA _)
      exact zt_iret C hr hlk (by first | exact if_n (by omega) rfl | (refine if_p (by omega) ?_; (try simp only [Int.toNat_natCast]); first | (show _ = A (280 + 8 * hn + 0); omega) | (show _ = A (280 + 8 * hn + 1); omega) | (show _ = A (280 + 8 * hn + 2); omega) | (show _ = A (280 + 8 * hn + 3); omega) | (show _ = A (280 + 8 * hn + 4); omega) | (show _ = A (280 + 8 * hn + 5); omega) | (show _ = A (280 + 8 * hn + 6); omega) | (show _ = A (280 + 8 * hn + 7); omega))) rfl dX11_about_124
    · subst q
      refine hv_tableIn C 125 ⟨by decide, by decide⟩ dX11_about_39 (by decide) (by decide) rfl (by decide) ?_
      refine hv_aload_n C 3 0 dX11_about_125 rfl rfl ?_
      refine zc_get C K (v := .int (iz (A (280 + 8 * hn + 7)))) 6 rfl hu_4 (by decide) (cw_ob o2) rfl fl_X11_167 rfl dX11_about_126 ?_
      refine hv_nm (fun x8 ex8 => ?_)
      have rx8 : inI x8 := by rw [ex8]; exact (hA _)
      exact zt_iret C hr hlk (by first | exact if_n (by omega) rfl | (refine if_p (by omega) ?_; (try simp only [Int.toNat_natCast]); first | (show _ = A (280 + 8 * hn + 0); omega) | (show _ = A (280 + 8 * hn + 1); omega) | (show _ = A (280 + 8 * hn + 2); omega) | (show _ = A (280 + 8 * hn + 3); omega) | (show _ = A (280 + 8 * hn + 4); omega) | (show _ = A (280 + 8 * hn + 5); omega) | (show _ = A (280 + 8 * hn + 6); omega) | (show _ = A (280 + 8 * hn + 7); omega))) rfl dX11_about_129
    · skip
      refine hv_tableOut C 130 (by omega) dX11_about_39 q (by decide) ?_
      refine hv_bipush C dX11_about_130 (by decide) ?_
      exact zt_iret C hr hlk (by first | exact if_n (by omega) rfl | (refine if_p (by omega) ?_; (try simp only [Int.toNat_natCast]); first | (show _ = A (280 + 8 * hn + 0); omega) | (show _ = A (280 + 8 * hn + 1); omega) | (show _ = A (280 + 8 * hn + 2); omega) | (show _ = A (280 + 8 * hn + 3); omega) | (show _ = A (280 + 8 * hn + 4); omega) | (show _ = A (280 + 8 * hn + 5); omega) | (show _ = A (280 + 8 * hn + 6); omega) | (show _ = A (280 + 8 * hn + 7); omega))) rfl dX11_about_132
  · skip
    refine hv_bipush C dX11_about_20 (by decide) ?_
    exact zt_iret C hr hlk (by first | exact if_n (by omega) rfl | (refine if_p (by omega) ?_; (try simp only [Int.toNat_natCast]); first | (show _ = A (280 + 8 * hn + 0); omega) | (show _ = A (280 + 8 * hn + 1); omega) | (show _ = A (280 + 8 * hn + 2); omega) | (show _ = A (280 + 8 * hn + 3); omega) | (show _ = A (280 + 8 * hn + 4); omega) | (show _ = A (280 + 8 * hn + 5); omega) | (show _ = A (280 + 8 * hn + 6); omega) | (show _ = A (280 + 8 * hn + 7); omega))) rfl dX11_about_22
theorem dX11_why_0 : decode cX11_why 0 = .ok (.aload_n 0, 1) := by decide +kernel
theorem dX11_why_1 : decode cX11_why 1 = .ok (.iload_n 1, 1) := by decide +kernel
theorem dX11_why_2 : decode cX11_why 2 = .ok (.invokevirtual 112, 3) := by decide +kernel
theorem dX11_why_5 : decode cX11_why 5 = .ok (.ifCond .eq 12, 3) := by decide +kernel
theorem dX11_why_8 : decode cX11_why 8 = .ok (.aload_n 0, 1) := by decide +kernel
theorem dX11_why_9 : decode cX11_why 9 = .ok (.iload_n 2, 1) := by decide +kernel
theorem dX11_why_10 : decode cX11_why 10 = .ok (.iload_n 3, 1) := by decide +kernel
theorem dX11_why_11 : decode cX11_why 11 = .ok (.invokevirtual 209, 3) := by decide +kernel
theorem dX11_why_14 : decode cX11_why 14 = .ok (.ifCond .ne 5, 3) := by decide +kernel
theorem dX11_why_17 : decode cX11_why 17 = .ok (.iconst (-1), 1) := by decide +kernel
theorem dX11_why_18 : decode cX11_why 18 = .ok (.ireturn, 1) := by decide +kernel
theorem dX11_why_19 : decode cX11_why 19 = .ok (.aload_n 0, 1) := by decide +kernel
theorem dX11_why_20 : decode cX11_why 20 = .ok (.getfield 10, 3) := by decide +kernel
theorem dX11_why_23 : decode cX11_why 23 = .ok (.getfield 124, 3) := by decide +kernel
theorem dX11_why_26 : decode cX11_why 26 = .ok (.iload_n 2, 1) := by decide +kernel
theorem dX11_why_27 : decode cX11_why 27 = .ok (.invokevirtual 146, 3) := by decide +kernel
theorem dX11_why_30 : decode cX11_why 30 = .ok (.checkcast 130, 3) := by decide +kernel
theorem dX11_why_33 : decode cX11_why 33 = .ok (.astore 5, 2) := by decide +kernel
theorem dX11_why_35 : decode cX11_why 35 = .ok (.aload_n 0, 1) := by decide +kernel
theorem dX11_why_36 : decode cX11_why 36 = .ok (.getfield 10, 3) := by decide +kernel
theorem dX11_why_39 : decode cX11_why 39 = .ok (.iload_n 1, 1) := by decide +kernel
theorem dX11_why_40 : decode cX11_why 40 = .ok (.aload 5, 2) := by decide +kernel
theorem dX11_why_42 : decode cX11_why 42 = .ok (.aload 5, 2) := by decide +kernel
theorem dX11_why_44 : decode cX11_why 44 = .ok (.getfield 153, 3) := by decide +kernel
theorem dX11_why_47 : decode cX11_why 47 = .ok (.iload_n 3, 1) := by decide +kernel
theorem dX11_why_48 : decode cX11_why 48 = .ok (.iadd, 1) := by decide +kernel
theorem dX11_why_49 : decode cX11_why 49 = .ok (.iload 4, 2) := by decide +kernel
theorem dX11_why_51 : decode cX11_why 51 = .ok (.invokevirtual 213, 3) := by decide +kernel
theorem dX11_why_54 : decode cX11_why 54 = .ok (.ireturn, 1) := by decide +kernel
theorem ck_X11_209 : zcV RX11 RX11 yX11_isSeenSlot cX11_isSeenSlot 4 (some .boolean) 209 2 := ⟨hk_tq4 67 (by decide +kernel) (by decide +kernel), hk_tq4 64 (by decide +kernel) (by decide +kernel), hk_tq1 1 (by decide +kernel) (by decide +kernel), ⟨by decide, by decide, by decide +kernel⟩, hk_tq4 66 (by decide +kernel) (by decide +kernel), hk_s 12 (by decide +kernel) (by decide +kernel)⟩
theorem ck_X11_213 : zcV RX11 RX8 yX8_lineFor cX8_lineFor 8 (some .int) 213 4 := ⟨hk_tq4 72 (by decide +kernel) (by decide +kernel), hk_tq4 69 (by decide +kernel) (by decide +kernel), hk_tq1 2 (by decide +kernel) (by decide +kernel), ⟨by decide, by decide, by decide +kernel⟩, hk_tq4 70 (by decide +kernel) (by decide +kernel), hk_tq4 71 (by decide +kernel) (by decide +kernel)⟩
set_option maxRecDepth 100000 in
set_option maxHeartbeats 4000000 in
theorem k_X11_why (l : Launch) {D : va_G} {ar : Nat → ClassId} {B : Nat → Prop} {b n : Nat} {w0 : zcW} (A : Nat → Int) (τ : Nat → Nat → Int) (st : Int) (h : Int) (i : Int) (pay : Bool) (hA : ∀ i, inI (A i)) (hR : Rel9 ar b w0 A τ) (hs : si A) (hh : hi A) (hl : li A) (hlj : lj9 A) (hc : cn A) (hm : mI A) (hb : bI A) (r_st : inI st) (r_h : inI h) (r_i : inI i) : zx_M l D ar B b w0 n yX11_why cX11_why 6 (some .int) 4 98 [.ref b, .int (iz st), .int (iz h), .int (iz i), .int (iz (xb (pay)))] τ (some (.int (iz (if (0 ≤ st ∧ st ≤ A 2 - 1) ∧ ((0 ≤ h ∧ h ≤ A 4 - 1) ∧ (A 9 = -1 ∨ A ((280 + (8 * h.toNat)) + 7) ≤ A 9)) ∧ (0 ≤ i ∧ i ≤ A ((280 + (8 * h.toNat)) + 3) - 1) then line A st.toNat h.toNat i pay else -1)))) := by
  refine zc_start (own := RX11) (by decide +kernel) rfl (Nat.le_of_ble_eq_true rfl) ?_
  intro p e s m args below meth c C K hr hlk hnam
  have n7 := hR.l7.1
  refine hv_aload_n C 0 0 dX11_why_0 rfl rfl ?_
  refine hv_iload_n C 1 1 dX11_why_1 rfl rfl ?_
  refine zt_callV [.int (iz st)] [] C K cw_0 rfl (k_X11_isStation l A τ st hA hR (by omega) hc) ck_X11_112 (by decide) ⟨Nat.zero_le _, Nat.zero_le _⟩ rfl (Nat.le_of_ble_eq_true rfl) dX11_why_2 ?_
  refine hv_as (xb (decide (0 ≤ st ∧ st ≤ A 2 - 1))) rfl ?_
  refine hv_dif_eq C 17 dX11_why_5 (by decide)  (fun h5 => ?_) (fun h5 => ?_)
  · skip
    refine hv_iconst C dX11_why_17 ?_
    exact zx_iret C hr hlk (by (try simp only [Int.toNat_natCast] at *); first | exact if_n (by omega) rfl | exact if_p (by omega) rfl) ⟨τ 18, (sA_id τ 18).symm⟩ dX11_why_18
  · skip
    refine hv_aload_n C 0 0 dX11_why_8 rfl rfl ?_
    refine hv_iload_n C 2 2 dX11_why_9 rfl rfl ?_
    refine hv_iload_n C 3 3 dX11_why_10 rfl rfl ?_
    refine zt_callV [.int (iz h), .int (iz i)] [] C K cw_0 rfl (k_X11_isSeenSlot l A τ h i hA hR hh hc (by omega) (by omega)) ck_X11_209 (by decide) ⟨Nat.zero_le _, Nat.zero_le _⟩ rfl (Nat.le_of_ble_eq_true rfl) dX11_why_11 ?_
    refine hv_as (xb (decide (((0 ≤ h ∧ h ≤ A 4 - 1) ∧ (A 9 = -1 ∨ A ((280 + (8 * h.toNat)) + 7) ≤ A 9)) ∧ (0 ≤ i ∧ i ≤ A ((280 + (8 * h.toNat)) + 3) - 1)))) rfl ?_
    refine hv_dif_ne C 19 dX11_why_14 (by decide)  (fun h14 => ?_) (fun h14 => ?_)
    · skip
      obtain ⟨sn, rfl⟩ : ∃ n9 : Nat, st = (n9 : Int) := ⟨(st).toNat, by omega⟩
      obtain ⟨hn, rfl⟩ : ∃ n9 : Nat, h = (n9 : Int) := ⟨(h).toNat, by omega⟩
      have hhk := hh hn (by omega)
      (try simp only [Int.toNat_natCast] at *)
      refine hv_aload_n C 0 0 dX11_why_19 rfl rfl ?_
      refine zc_get C K (v := .ref (b + 1)) 0 rfl hu_12 (by decide) cw_0 rfl fl_X11_10 rfl dX11_why_20 ?_
      refine zc_get C K (v := .ref (b + 7)) 6 rfl hu_9 (by decide) (cw_at 1 rfl) rfl fl_X11_124 rfl dX11_why_23 ?_
      refine hv_iload_n C 2 2 dX11_why_26 rfl rfl ?_
      obtain ⟨p1, i1, o1⟩ := (hR : Rel9 ar b w0 A τ).l7.2 hn (by omega)
      refine zt_callV [.int (iz ((hn : Nat) : Int))] [] C K (cw_at 7 rfl) rfl (k_Jx4a65c_get_915e3 l 7 p1 τ hn rfl i1) ck_X11_146 (by decide) ⟨Nat.zero_le _, Nat.zero_le _⟩ rfl (Nat.le_of_ble_eq_true rfl) dX11_why_27 ?_
      refine zc_cast C K (cw_ob o1) (hc := rfl) cl_X11_130 dX11_why_30 ?_
      refine hv_astore C 5 [(5, .ref p1), (0, .ref b), (1, .int (iz ((sn : Nat) : Int))), (2, .int (iz ((hn : Nat) : Int))), (3, .int (iz i)), (4, .int (iz (xb (pay))))] dX11_why_33 (by decide) rfl ?_
      refine hv_aload_n C 0 1 dX11_why_35 rfl rfl ?_
      refine zc_get C K (v := .ref (b + 1)) 0 rfl hu_12 (by decide) cw_0 rfl fl_X11_10 rfl dX11_why_36 ?_
      refine hv_iload_n C 1 2 dX11_why_39 rfl rfl ?_
      refine hv_aload C 5 0 dX11_why_40 rfl ?_
      refine hv_aload C 5 0 dX11_why_42 rfl ?_
      refine zc_get C K (v := .int (iz ((48 * (A (280 + 8 * hn + 1))) + (A (280 + 8 * hn + 2))))) 1 rfl hu_4 (by decide) (cw_ob o1) rfl fl_X11_153 rfl dX11_why_44 ?_
      refine hv_iload_n C 3 4 dX11_why_47 rfl rfl ?_
      refine hv_iadd C dX11_why_48 ?_
      refine hv_iload C 4 5 dX11_why_49 rfl ?_
      refine zx_callV [.int (iz ((sn : Nat) : Int)), .ref p1, .int (iz (((48 * (A (280 + 8 * hn + 1))) + (A (280 + 8 * hn + 2))) + i)), .int (iz (xb (pay)))] [] C K (cw_at 1 rfl) rfl (k_X8_lineFor l A hn p1 i τ sn (((48 * (A (280 + 8 * hn + 1))) + (A (280 + 8 * hn + 2))) + i) (pay) hA hR o1 hs hh hl hlj hc (by omega) (by omega) (by omega)) ck_X11_213 (by decide) ⟨Nat.zero_le _, Nat.zero_le _⟩ rfl (Nat.le_of_ble_eq_true rfl) dX11_why_51 (fun X2 => ?_)
      refine hv_as ((line A sn hn i (pay))) rfl ?_
      exact zx_iret C hr hlk (by (try simp only [Int.toNat_natCast] at *); first | exact if_n (by omega) rfl | exact if_p (by omega) rfl) ⟨X2, rfl⟩ dX11_why_54
    · skip
      refine hv_iconst C dX11_why_17 ?_
      exact zx_iret C hr hlk (by (try simp only [Int.toNat_natCast] at *); first | exact if_n (by omega) rfl | exact if_p (by omega) rfl) ⟨τ 18, (sA_id τ 18).symm⟩ dX11_why_18
theorem dX11_clears_0 : decode cX11_clears 0 = .ok (.aload_n 0, 1) := by decide +kernel
theorem dX11_clears_1 : decode cX11_clears 1 = .ok (.iload_n 1, 1) := by decide +kernel
theorem dX11_clears_2 : decode cX11_clears 2 = .ok (.invokevirtual 112, 3) := by decide +kernel
theorem dX11_clears_5 : decode cX11_clears 5 = .ok (.ifCond .eq 12, 3) := by decide +kernel
theorem dX11_clears_8 : decode cX11_clears 8 = .ok (.aload_n 0, 1) := by decide +kernel
theorem dX11_clears_9 : decode cX11_clears 9 = .ok (.iload_n 2, 1) := by decide +kernel
theorem dX11_clears_10 : decode cX11_clears 10 = .ok (.iload_n 3, 1) := by decide +kernel
theorem dX11_clears_11 : decode cX11_clears 11 = .ok (.invokevirtual 209, 3) := by decide +kernel
theorem dX11_clears_14 : decode cX11_clears 14 = .ok (.ifCond .ne 5, 3) := by decide +kernel
theorem dX11_clears_17 : decode cX11_clears 17 = .ok (.iconst 0, 1) := by decide +kernel
theorem dX11_clears_18 : decode cX11_clears 18 = .ok (.ireturn, 1) := by decide +kernel
theorem dX11_clears_19 : decode cX11_clears 19 = .ok (.aload_n 0, 1) := by decide +kernel
theorem dX11_clears_20 : decode cX11_clears 20 = .ok (.getfield 10, 3) := by decide +kernel
theorem dX11_clears_23 : decode cX11_clears 23 = .ok (.getfield 124, 3) := by decide +kernel
theorem dX11_clears_26 : decode cX11_clears 26 = .ok (.iload_n 2, 1) := by decide +kernel
theorem dX11_clears_27 : decode cX11_clears 27 = .ok (.invokevirtual 146, 3) := by decide +kernel
theorem dX11_clears_30 : decode cX11_clears 30 = .ok (.checkcast 130, 3) := by decide +kernel
theorem dX11_clears_33 : decode cX11_clears 33 = .ok (.astore 4, 2) := by decide +kernel
theorem dX11_clears_35 : decode cX11_clears 35 = .ok (.aload_n 0, 1) := by decide +kernel
theorem dX11_clears_36 : decode cX11_clears 36 = .ok (.getfield 10, 3) := by decide +kernel
theorem dX11_clears_39 : decode cX11_clears 39 = .ok (.iload_n 1, 1) := by decide +kernel
theorem dX11_clears_40 : decode cX11_clears 40 = .ok (.aload 4, 2) := by decide +kernel
theorem dX11_clears_42 : decode cX11_clears 42 = .ok (.aload 4, 2) := by decide +kernel
theorem dX11_clears_44 : decode cX11_clears 44 = .ok (.getfield 153, 3) := by decide +kernel
theorem dX11_clears_47 : decode cX11_clears 47 = .ok (.iload_n 3, 1) := by decide +kernel
theorem dX11_clears_48 : decode cX11_clears 48 = .ok (.iadd, 1) := by decide +kernel
theorem dX11_clears_49 : decode cX11_clears 49 = .ok (.iconst 0, 1) := by decide +kernel
theorem dX11_clears_50 : decode cX11_clears 50 = .ok (.invokevirtual 213, 3) := by decide +kernel
theorem dX11_clears_53 : decode cX11_clears 53 = .ok (.istore 5, 2) := by decide +kernel
theorem dX11_clears_55 : decode cX11_clears 55 = .ok (.aload_n 0, 1) := by decide +kernel
theorem dX11_clears_56 : decode cX11_clears 56 = .ok (.getfield 10, 3) := by decide +kernel
theorem dX11_clears_59 : decode cX11_clears 59 = .ok (.getfield 196, 3) := by decide +kernel
theorem dX11_clears_62 : decode cX11_clears 62 = .ok (.aload 4, 2) := by decide +kernel
theorem dX11_clears_64 : decode cX11_clears 64 = .ok (.getfield 150, 3) := by decide +kernel
theorem dX11_clears_67 : decode cX11_clears 67 = .ok (.aaload, 1) := by decide +kernel
theorem dX11_clears_68 : decode cX11_clears 68 = .ok (.iload 5, 2) := by decide +kernel
theorem dX11_clears_70 : decode cX11_clears 70 = .ok (.invokevirtual 217, 3) := by decide +kernel
theorem dX11_clears_73 : decode cX11_clears 73 = .ok (.ireturn, 1) := by decide +kernel
theorem fl_X11_196 : Cond.fieldLink RX11 196 "HookUps$Told" (TX8 15).2.1 (TX8 15).2.2.1 ∈ hk_tb := hk_tq1 158 (by decide +kernel) (by decide +kernel)
theorem ck_X11_217 : zcV RX11 RX1 yX1_clearsBy cX1_clearsBy 2 (some .boolean) 217 1 := ⟨hk_tq4 96 (by decide +kernel) (by decide +kernel), hk_tq4 93 (by decide +kernel) (by decide +kernel), hk_tq1 7 (by decide +kernel) (by decide +kernel), ⟨by decide, by decide, by decide +kernel⟩, hk_tq4 94 (by decide +kernel) (by decide +kernel), hk_tq4 95 (by decide +kernel) (by decide +kernel)⟩
set_option maxRecDepth 100000 in
set_option maxHeartbeats 4000000 in
theorem k_X11_clears (l : Launch) {D : va_G} {ar : Nat → ClassId} {B : Nat → Prop} {b n : Nat} {w0 : zcW} (A : Nat → Int) (τ : Nat → Nat → Int) (st : Int) (h : Int) (i : Int) (hA : ∀ i, inI (A i)) (hR : Rel9 ar b w0 A τ) (hs : si A) (hh : hi A) (hl : li A) (hlj : lj9 A) (hc : cn A) (hm : mI A) (hb : bI A) (r_st : inI st) (r_h : inI h) (r_i : inI i) : zx_M l D ar B b w0 n yX11_clears cX11_clears 6 (some .boolean) 4 98 [.ref b, .int (iz st), .int (iz h), .int (iz i)] τ (some (.int (iz (xb (decide ((0 ≤ st ∧ st ≤ A 2 - 1) ∧ ((0 ≤ h ∧ h ≤ A 4 - 1) ∧ (A 9 = -1 ∨ A ((280 + (8 * h.toNat)) + 7) ≤ A 9)) ∧ (0 ≤ i ∧ i ≤ A ((280 + (8 * h.toNat)) + 3) - 1)) && clr A st.toNat h.toNat i))))) := by
  refine zc_start (own := RX11) (by decide +kernel) rfl (Nat.le_of_ble_eq_true rfl) ?_
  intro p e s m args below meth c C K hr hlk hnam
  have n7 := hR.l7.1
  refine hv_aload_n C 0 0 dX11_clears_0 rfl rfl ?_
  refine hv_iload_n C 1 1 dX11_clears_1 rfl rfl ?_
  refine zt_callV [.int (iz st)] [] C K cw_0 rfl (k_X11_isStation l A τ st hA hR (by omega) hc) ck_X11_112 (by decide) ⟨Nat.zero_le _, Nat.zero_le _⟩ rfl (Nat.le_of_ble_eq_true rfl) dX11_clears_2 ?_
  refine hv_as (xb (decide (0 ≤ st ∧ st ≤ A 2 - 1))) rfl ?_
  refine hv_dif_eq C 17 dX11_clears_5 (by decide)  (fun h5 => ?_) (fun h5 => ?_)
  · skip
    refine hv_iconst C dX11_clears_17 ?_
    exact zx_zret C hr hlk ((xb_f (by (try simp only [Int.toNat_natCast] at *); first | (rw [decide_eq_false (by omega), Bool.false_and]; done) | (rw [← zcl, decide_eq_true (by omega), Bool.true_and]))).symm) ⟨τ 18, (sA_id τ 18).symm⟩ dX11_clears_18
  · skip
    refine hv_aload_n C 0 0 dX11_clears_8 rfl rfl ?_
    refine hv_iload_n C 2 2 dX11_clears_9 rfl rfl ?_
    refine hv_iload_n C 3 3 dX11_clears_10 rfl rfl ?_
    refine zt_callV [.int (iz h), .int (iz i)] [] C K cw_0 rfl (k_X11_isSeenSlot l A τ h i hA hR hh hc (by omega) (by omega)) ck_X11_209 (by decide) ⟨Nat.zero_le _, Nat.zero_le _⟩ rfl (Nat.le_of_ble_eq_true rfl) dX11_clears_11 ?_
    refine hv_as (xb (decide (((0 ≤ h ∧ h ≤ A 4 - 1) ∧ (A 9 = -1 ∨ A ((280 + (8 * h.toNat)) + 7) ≤ A 9)) ∧ (0 ≤ i ∧ i ≤ A ((280 + (8 * h.toNat)) + 3) - 1)))) rfl ?_
    refine hv_dif_ne C 19 dX11_clears_14 (by decide)  (fun h14 => ?_) (fun h14 => ?_)
    · skip
      obtain ⟨sn, rfl⟩ : ∃ n9 : Nat, st = (n9 : Int) := ⟨(st).toNat, by omega⟩
      obtain ⟨hn, rfl⟩ : ∃ n9 : Nat, h = (n9 : Int) := ⟨(h).toNat, by omega⟩
      have hhk := hh hn (by omega)
      (try simp only [Int.toNat_natCast] at *)
      refine hv_aload_n C 0 0 dX11_clears_19 rfl rfl ?_
      refine zc_get C K (v := .ref (b + 1)) 0 rfl hu_12 (by decide) cw_0 rfl fl_X11_10 rfl dX11_clears_20 ?_
      refine zc_get C K (v := .ref (b + 7)) 6 rfl hu_9 (by decide) (cw_at 1 rfl) rfl fl_X11_124 rfl dX11_clears_23 ?_
      refine hv_iload_n C 2 2 dX11_clears_26 rfl rfl ?_
      obtain ⟨p1, i1, o1⟩ := (hR : Rel9 ar b w0 A τ).l7.2 hn (by omega)
      refine zt_callV [.int (iz ((hn : Nat) : Int))] [] C K (cw_at 7 rfl) rfl (k_Jx4a65c_get_915e3 l 7 p1 τ hn rfl i1) ck_X11_146 (by decide) ⟨Nat.zero_le _, Nat.zero_le _⟩ rfl (Nat.le_of_ble_eq_true rfl) dX11_clears_27 ?_
      refine zc_cast C K (cw_ob o1) (hc := rfl) cl_X11_130 dX11_clears_30 ?_
      refine hv_astore C 4 [(4, .ref p1), (0, .ref b), (1, .int (iz ((sn : Nat) : Int))), (2, .int (iz ((hn : Nat) : Int))), (3, .int (iz i))] dX11_clears_33 (by decide) rfl ?_
      refine hv_aload_n C 0 1 dX11_clears_35 rfl rfl ?_
      refine zc_get C K (v := .ref (b + 1)) 0 rfl hu_12 (by decide) cw_0 rfl fl_X11_10 rfl dX11_clears_36 ?_
      refine hv_iload_n C 1 2 dX11_clears_39 rfl rfl ?_
      refine hv_aload C 4 0 dX11_clears_40 rfl ?_
      refine hv_aload C 4 0 dX11_clears_42 rfl ?_
      refine zc_get C K (v := .int (iz ((48 * (A (280 + 8 * hn + 1))) + (A (280 + 8 * hn + 2))))) 1 rfl hu_4 (by decide) (cw_ob o1) rfl fl_X11_153 rfl dX11_clears_44 ?_
      refine hv_iload_n C 3 4 dX11_clears_47 rfl rfl ?_
      refine hv_iadd C dX11_clears_48 ?_
      refine hv_iconst C dX11_clears_49 ?_
      refine zx_callV [.int (iz ((sn : Nat) : Int)), .ref p1, .int (iz (((48 * (A (280 + 8 * hn + 1))) + (A (280 + 8 * hn + 2))) + i)), .int (iz 0)] [] C K (cw_at 1 rfl) rfl (k_X8_lineFor l A hn p1 i τ sn (((48 * (A (280 + 8 * hn + 1))) + (A (280 + 8 * hn + 2))) + i) false hA hR o1 hs hh hl hlj hc (by omega) (by omega) (by omega)) ck_X11_213 (by decide) ⟨Nat.zero_le _, Nat.zero_le _⟩ rfl (Nat.le_of_ble_eq_true rfl) dX11_clears_50 (fun X2 => ?_)
      refine hv_as ((line A sn hn i false)) rfl ?_
      refine hv_nm (fun x3 ex3 => ?_)
      have rx3 : inI x3 := by rw [ex3]; exact (by have z := line_rng sn (h := hn) i false hh hl (by omega); exact ⟨by omega, by omega⟩)
      refine hv_istore C 5 [(5, .int (iz x3)), (4, .ref p1), (0, .ref b), (1, .int (iz ((sn : Nat) : Int))), (2, .int (iz ((hn : Nat) : Int))), (3, .int (iz i))] dX11_clears_53 (by decide) rfl ?_
      refine hv_aload_n C 0 2 dX11_clears_55 rfl rfl ?_
      refine zc_get C K (v := .ref (b + 1)) 0 rfl hu_12 (by decide) cw_0 rfl fl_X11_10 rfl dX11_clears_56 ?_
      refine zc_get C K (v := .ref (b + 10)) 15 rfl hu_9 (by decide) (cw_at 1 rfl) rfl fl_X11_196 rfl dX11_clears_59 ?_
      refine hv_aload C 4 1 dX11_clears_62 rfl ?_
      refine zc_get C K (v := .int (iz (A (280 + 8 * hn + 0)))) 0 rfl hu_4 (by decide) (cw_ob o1) rfl fl_X11_150 rfl dX11_clears_64 ?_
      refine hv_nm (fun x4 ex4 => ?_)
      have rx4 : inI x4 := by rw [ex4]; exact (hA _)
      obtain ⟨wN, rfl⟩ : ∃ n9 : Nat, x4 = (n9 : Int) := ⟨(x4).toNat, by omega⟩
      refine zc_aald C K (f := (fun q => rfv ((τ 10) q))) 3 wN (cw_at 10 rfl) rfl (by omega) (by omega) (by decide) dX11_clears_67 ?_
      obtain ⟨p8, e8, hC8⟩ := hR.con wN (by omega)
      obtain ⟨d8, c8, t8, _, _, _, hO8, _⟩ := id hC8
      refine hv_asv (.ref p8) (by show va_rf (rfv (τ 10 wN)) = _; rw [e8, rfv_n]; rfl) ?_
      have zcl : clr A sn hn i = decide ((0 ≤ x3 ∧ x3 ≤ A (14 + wN) - 1) ∧ A (800 + 320 * wN + 20 * (x3).toNat + 17) = 20) := by rw [ex3]; exact clr_c hh hl (by omega) (by omega)
      refine hv_iload C 5 0 dX11_clears_68 rfl ?_
      refine zt_callV [.int (iz x3)] [] C K (cw_ob hO8) rfl (k_X1_clearsBy l A wN p8 (sA τ 18 X2) x3 hA hC8 hl hlj (by omega) (by omega)) ck_X11_217 (by decide) ⟨Nat.zero_le _, Nat.zero_le _⟩ rfl (Nat.le_of_ble_eq_true rfl) dX11_clears_70 ?_
      refine hv_as (xb (decide ((0 ≤ x3 ∧ x3 ≤ A (14 + wN) - 1) ∧ A ((800 + 320 * wN + 20 * x3.toNat) + 17) = 20))) rfl ?_
      exact zx_zret C hr hlk ((congrArg xb (by (try simp only [Int.toNat_natCast] at *); first | (rw [decide_eq_false (by omega), Bool.false_and]; done) | (rw [← zcl, decide_eq_true (by omega), Bool.true_and])))) ⟨X2, rfl⟩ dX11_clears_73
    · skip
      refine hv_iconst C dX11_clears_17 ?_
      exact zx_zret C hr hlk ((xb_f (by (try simp only [Int.toNat_natCast] at *); first | (rw [decide_eq_false (by omega), Bool.false_and]; done) | (rw [← zcl, decide_eq_true (by omega), Bool.true_and]))).symm) ⟨τ 18, (sA_id τ 18).symm⟩ dX11_clears_18
theorem dX11_sends_0 : decode cX11_sends 0 = .ok (.aload_n 0, 1) := by decide +kernel
theorem dX11_sends_1 : decode cX11_sends 1 = .ok (.iload_n 1, 1) := by decide +kernel
theorem dX11_sends_2 : decode cX11_sends 2 = .ok (.invokevirtual 112, 3) := by decide +kernel
theorem dX11_sends_5 : decode cX11_sends 5 = .ok (.ifCond .eq 17, 3) := by decide +kernel
theorem dX11_sends_8 : decode cX11_sends 8 = .ok (.iload_n 2, 1) := by decide +kernel
theorem dX11_sends_9 : decode cX11_sends 9 = .ok (.invokestatic 86, 3) := by decide +kernel
theorem dX11_sends_12 : decode cX11_sends 12 = .ok (.ifCond .eq 10, 3) := by decide +kernel
theorem dX11_sends_15 : decode cX11_sends 15 = .ok (.iload_n 3, 1) := by decide +kernel
theorem dX11_sends_16 : decode cX11_sends 16 = .ok (.invokestatic 93, 3) := by decide +kernel
theorem dX11_sends_19 : decode cX11_sends 19 = .ok (.ifCond .ne 5, 3) := by decide +kernel
theorem dX11_sends_22 : decode cX11_sends 22 = .ok (.iconst (-1), 1) := by decide +kernel
theorem dX11_sends_23 : decode cX11_sends 23 = .ok (.ireturn, 1) := by decide +kernel
theorem dX11_sends_24 : decode cX11_sends 24 = .ok (.aload_n 0, 1) := by decide +kernel
theorem dX11_sends_25 : decode cX11_sends 25 = .ok (.getfield 10, 3) := by decide +kernel
theorem dX11_sends_28 : decode cX11_sends 28 = .ok (.iload_n 1, 1) := by decide +kernel
theorem dX11_sends_29 : decode cX11_sends 29 = .ok (.bipush 48, 2) := by decide +kernel
theorem dX11_sends_31 : decode cX11_sends 31 = .ok (.iload_n 2, 1) := by decide +kernel
theorem dX11_sends_32 : decode cX11_sends 32 = .ok (.imul, 1) := by decide +kernel
theorem dX11_sends_33 : decode cX11_sends 33 = .ok (.iload_n 3, 1) := by decide +kernel
theorem dX11_sends_34 : decode cX11_sends 34 = .ok (.iadd, 1) := by decide +kernel
theorem dX11_sends_35 : decode cX11_sends 35 = .ok (.invokevirtual 220, 3) := by decide +kernel
theorem dX11_sends_38 : decode cX11_sends 38 = .ok (.ireturn, 1) := by decide +kernel
theorem ck_X11_220 : zcV RX11 RX8 yX8_sentAt cX8_sentAt 7 (some .int) 220 2 := ⟨hk_tq4 109 (by decide +kernel) (by decide +kernel), hk_tq4 106 (by decide +kernel) (by decide +kernel), hk_tq1 2 (by decide +kernel) (by decide +kernel), ⟨by decide, by decide, by decide +kernel⟩, hk_tq4 107 (by decide +kernel) (by decide +kernel), hk_tq4 108 (by decide +kernel) (by decide +kernel)⟩
set_option maxRecDepth 100000 in
set_option maxHeartbeats 4000000 in
theorem k_X11_sends (l : Launch) {D : va_G} {ar : Nat → ClassId} {B : Nat → Prop} {b n : Nat} {w0 : zcW} (A : Nat → Int) (τ : Nat → Nat → Int) (st : Int) (d : Int) (t : Int) (hA : ∀ i, inI (A i)) (hR : Rel9 ar b w0 A τ) (hs : si A) (hh : hi A) (hl : li A) (hlj : lj9 A) (hc : cn A) (hm : mI A) (hb : bI A) (r_st : inI st) (r_d : inI d) (r_t : inI t) : zx_M l D ar B b w0 n yX11_sends cX11_sends 4 (some .int) 6 152 [.ref b, .int (iz st), .int (iz d), .int (iz t)] τ (some (.int (iz (if (0 ≤ st ∧ st ≤ A 2 - 1) ∧ (0 ≤ d ∧ d ≤ 199) ∧ (0 ≤ t ∧ t ≤ 47) then sd A st.toNat d t else -1)))) := by
  refine zc_start (own := RX11) (by decide +kernel) rfl (Nat.le_of_ble_eq_true rfl) ?_
  intro p e s m args below meth c C K hr hlk hnam
  refine hv_aload_n C 0 0 dX11_sends_0 rfl rfl ?_
  refine hv_iload_n C 1 1 dX11_sends_1 rfl rfl ?_
  refine zt_callV [.int (iz st)] [] C K cw_0 rfl (k_X11_isStation l A τ st hA hR (by omega) hc) ck_X11_112 (by decide) ⟨Nat.zero_le _, Nat.zero_le _⟩ rfl (Nat.le_of_ble_eq_true rfl) dX11_sends_2 ?_
  refine hv_as (xb (decide (0 ≤ st ∧ st ≤ A 2 - 1))) rfl ?_
  refine hv_dif_eq C 22 dX11_sends_5 (by decide)  (fun h5 => ?_) (fun h5 => ?_)
  · skip
    refine hv_iconst C dX11_sends_22 ?_
    exact zx_iret C hr hlk (by (try simp only [Int.toNat_natCast] at *); first | exact if_n (by omega) rfl | exact if_p (by omega) rfl) ⟨τ 18, (sA_id τ 18).symm⟩ dX11_sends_23
  · skip
    refine hv_iload_n C 2 2 dX11_sends_8 rfl rfl ?_
    refine zt_callS [.int (iz d)] [] C K (k_X11_isDay l  τ d (by omega)) ck_X11_86 (by decide) ⟨Nat.zero_le _, Nat.zero_le _⟩ rfl (Nat.le_of_ble_eq_true rfl) dX11_sends_9 ?_
    refine hv_as (xb (decide (0 ≤ d ∧ d ≤ 199))) rfl ?_
    refine hv_dif_eq C 22 dX11_sends_12 (by decide)  (fun h12 => ?_) (fun h12 => ?_)
    · skip
      refine hv_iconst C dX11_sends_22 ?_
      exact zx_iret C hr hlk (by (try simp only [Int.toNat_natCast] at *); first | exact if_n (by omega) rfl | exact if_p (by omega) rfl) ⟨τ 18, (sA_id τ 18).symm⟩ dX11_sends_23
    · skip
      refine hv_iload_n C 3 3 dX11_sends_15 rfl rfl ?_
      refine zt_callS [.int (iz t)] [] C K (k_X11_isSlot l  τ t (by omega)) ck_X11_93 (by decide) ⟨Nat.zero_le _, Nat.zero_le _⟩ rfl (Nat.le_of_ble_eq_true rfl) dX11_sends_16 ?_
      refine hv_as (xb (decide (0 ≤ t ∧ t ≤ 47))) rfl ?_
      refine hv_dif_ne C 24 dX11_sends_19 (by decide)  (fun h19 => ?_) (fun h19 => ?_)
      · skip
        obtain ⟨sn, rfl⟩ : ∃ n9 : Nat, st = (n9 : Int) := ⟨(st).toNat, by omega⟩
        refine hv_aload_n C 0 0 dX11_sends_24 rfl rfl ?_
        refine zc_get C K (v := .ref (b + 1)) 0 rfl hu_12 (by decide) cw_0 rfl fl_X11_10 rfl dX11_sends_25 ?_
        refine hv_iload_n C 1 1 dX11_sends_28 rfl rfl ?_
        refine hv_bipush C dX11_sends_29 (by decide) ?_
        refine hv_iload_n C 2 2 dX11_sends_31 rfl rfl ?_
        refine hv_imul C dX11_sends_32 ?_
        refine hv_iload_n C 3 3 dX11_sends_33 rfl rfl ?_
        refine hv_iadd C dX11_sends_34 ?_
        refine zx_callV [.int (iz ((sn : Nat) : Int)), .int (iz ((48 * d) + t))] [] C K (cw_at 1 rfl) rfl (k_X8_sentAt l A d t τ sn ((48 * d) + t) hA hR hs hh hl hlj hc hm hb (by omega) (by omega)) ck_X11_220 (by decide) ⟨Nat.zero_le _, Nat.zero_le _⟩ rfl (Nat.le_of_ble_eq_true rfl) dX11_sends_35 (fun X1 => ?_)
        refine hv_as ((sd A sn d t)) rfl ?_
        exact zx_iret C hr hlk (by (try simp only [Int.toNat_natCast] at *); first | exact if_n (by omega) rfl | exact if_p (by omega) rfl) ⟨X1, rfl⟩ dX11_sends_38
      · skip
        refine hv_iconst C dX11_sends_22 ?_
        exact zx_iret C hr hlk (by (try simp only [Int.toNat_natCast] at *); first | exact if_n (by omega) rfl | exact if_p (by omega) rfl) ⟨τ 18, (sA_id τ 18).symm⟩ dX11_sends_23
theorem dX11_sent_0 : decode cX11_sent 0 = .ok (.aload_n 0, 1) := by decide +kernel
theorem dX11_sent_1 : decode cX11_sent 1 = .ok (.iload_n 1, 1) := by decide +kernel
theorem dX11_sent_2 : decode cX11_sent 2 = .ok (.iload_n 2, 1) := by decide +kernel
theorem dX11_sent_3 : decode cX11_sent 3 = .ok (.invokevirtual 209, 3) := by decide +kernel
theorem dX11_sent_6 : decode cX11_sent 6 = .ok (.ifCond .ne 5, 3) := by decide +kernel
theorem dX11_sent_9 : decode cX11_sent 9 = .ok (.iconst (-1), 1) := by decide +kernel
theorem dX11_sent_10 : decode cX11_sent 10 = .ok (.ireturn, 1) := by decide +kernel
theorem dX11_sent_11 : decode cX11_sent 11 = .ok (.aload_n 0, 1) := by decide +kernel
theorem dX11_sent_12 : decode cX11_sent 12 = .ok (.getfield 10, 3) := by decide +kernel
theorem dX11_sent_15 : decode cX11_sent 15 = .ok (.getfield 124, 3) := by decide +kernel
theorem dX11_sent_18 : decode cX11_sent 18 = .ok (.iload_n 1, 1) := by decide +kernel
theorem dX11_sent_19 : decode cX11_sent 19 = .ok (.invokevirtual 146, 3) := by decide +kernel
theorem dX11_sent_22 : decode cX11_sent 22 = .ok (.checkcast 130, 3) := by decide +kernel
theorem dX11_sent_25 : decode cX11_sent 25 = .ok (.getfield 153, 3) := by decide +kernel
theorem dX11_sent_28 : decode cX11_sent 28 = .ok (.iload_n 2, 1) := by decide +kernel
theorem dX11_sent_29 : decode cX11_sent 29 = .ok (.iadd, 1) := by decide +kernel
theorem dX11_sent_30 : decode cX11_sent 30 = .ok (.istore_n 3, 1) := by decide +kernel
theorem dX11_sent_31 : decode cX11_sent 31 = .ok (.iconst 0, 1) := by decide +kernel
theorem dX11_sent_32 : decode cX11_sent 32 = .ok (.istore 4, 2) := by decide +kernel
theorem dX11_sent_34 : decode cX11_sent 34 = .ok (.iconst 0, 1) := by decide +kernel
theorem dX11_sent_35 : decode cX11_sent 35 = .ok (.istore 5, 2) := by decide +kernel
theorem dX11_sent_37 : decode cX11_sent 37 = .ok (.iload 5, 2) := by decide +kernel
theorem dX11_sent_39 : decode cX11_sent 39 = .ok (.aload_n 0, 1) := by decide +kernel
theorem dX11_sent_40 : decode cX11_sent 40 = .ok (.getfield 10, 3) := by decide +kernel
theorem dX11_sent_43 : decode cX11_sent 43 = .ok (.getfield 75, 3) := by decide +kernel
theorem dX11_sent_46 : decode cX11_sent 46 = .ok (.invokevirtual 52, 3) := by decide +kernel
theorem dX11_sent_49 : decode cX11_sent 49 = .ok (.if_icmp .ge 32, 3) := by decide +kernel
theorem dX11_sent_52 : decode cX11_sent 52 = .ok (.aload_n 0, 1) := by decide +kernel
theorem dX11_sent_53 : decode cX11_sent 53 = .ok (.getfield 10, 3) := by decide +kernel
theorem dX11_sent_56 : decode cX11_sent 56 = .ok (.iload 5, 2) := by decide +kernel
theorem dX11_sent_58 : decode cX11_sent 58 = .ok (.iload_n 3, 1) := by decide +kernel
theorem dX11_sent_59 : decode cX11_sent 59 = .ok (.invokevirtual 220, 3) := by decide +kernel
theorem dX11_sent_62 : decode cX11_sent 62 = .ok (.iload_n 1, 1) := by decide +kernel
theorem dX11_sent_63 : decode cX11_sent 63 = .ok (.if_icmp .ne 12, 3) := by decide +kernel
theorem dX11_sent_66 : decode cX11_sent 66 = .ok (.iload 4, 2) := by decide +kernel
theorem dX11_sent_68 : decode cX11_sent 68 = .ok (.iconst 1, 1) := by decide +kernel
theorem dX11_sent_69 : decode cX11_sent 69 = .ok (.iload 5, 2) := by decide +kernel
theorem dX11_sent_71 : decode cX11_sent 71 = .ok (.ishl, 1) := by decide +kernel
theorem dX11_sent_72 : decode cX11_sent 72 = .ok (.ior, 1) := by decide +kernel
theorem dX11_sent_73 : decode cX11_sent 73 = .ok (.istore 4, 2) := by decide +kernel
theorem dX11_sent_75 : decode cX11_sent 75 = .ok (.iinc 5 1, 3) := by decide +kernel
theorem dX11_sent_78 : decode cX11_sent 78 = .ok (.goto (-41), 3) := by decide +kernel
theorem dX11_sent_81 : decode cX11_sent 81 = .ok (.iload 4, 2) := by decide +kernel
theorem dX11_sent_83 : decode cX11_sent 83 = .ok (.ireturn, 1) := by decide +kernel
set_option maxRecDepth 100000 in
set_option maxHeartbeats 4000000 in
theorem k_X11_sent (l : Launch) {D : va_G} {ar : Nat → ClassId} {B : Nat → Prop} {b n : Nat} {w0 : zcW} (A : Nat → Int) (τ : Nat → Nat → Int) (h : Int) (i : Int) (hA : ∀ i, inI (A i)) (hR : Rel9 ar b w0 A τ) (hs : si A) (hh : hi A) (hl : li A) (hlj : lj9 A) (hc : cn A) (hm : mI A) (hb : bI A) (r_h : inI h) (r_i : inI i) : zx_M l D ar B b w0 n yX11_sent cX11_sent 6 (some .int) 6 152 [.ref b, .int (iz h), .int (iz i)] τ (some (.int (iz (if ((0 ≤ h ∧ h ≤ A 4 - 1) ∧ (A 9 = -1 ∨ A ((280 + (8 * h.toNat)) + 7) ≤ A 9)) ∧ (0 ≤ i ∧ i ≤ A ((280 + (8 * h.toNat)) + 3) - 1) then ((se A h (A (280 + 8 * h.toNat + 1)) (A (280 + 8 * h.toNat + 2) + i) (A 2).toNat : Nat) : Int) else -1)))) := by
  refine zc_start (own := RX11) (by decide +kernel) rfl (Nat.le_of_ble_eq_true rfl) ?_
  intro p e s m args below meth c C K hr hlk hnam
  have n7 := hR.l7.1
  have n3 := hR.l3.1
  refine hv_aload_n C 0 0 dX11_sent_0 rfl rfl ?_
  refine hv_iload_n C 1 1 dX11_sent_1 rfl rfl ?_
  refine hv_iload_n C 2 2 dX11_sent_2 rfl rfl ?_
  refine zt_callV [.int (iz h), .int (iz i)] [] C K cw_0 rfl (k_X11_isSeenSlot l A τ h i hA hR hh hc (by omega) (by omega)) ck_X11_209 (by decide) ⟨Nat.zero_le _, Nat.zero_le _⟩ rfl (Nat.le_of_ble_eq_true rfl) dX11_sent_3 ?_
  refine hv_as (xb (decide (((0 ≤ h ∧ h ≤ A 4 - 1) ∧ (A 9 = -1 ∨ A ((280 + (8 * h.toNat)) + 7) ≤ A 9)) ∧ (0 ≤ i ∧ i ≤ A ((280 + (8 * h.toNat)) + 3) - 1)))) rfl ?_
  refine hv_dif_ne C 11 dX11_sent_6 (by decide)  (fun h6 => ?_) (fun h6 => ?_)
  · skip
    obtain ⟨hn, rfl⟩ : ∃ n9 : Nat, h = (n9 : Int) := ⟨(h).toNat, by omega⟩
    have hhk := hh hn (by omega)
    (try simp only [Int.toNat_natCast] at *)
    refine hv_aload_n C 0 0 dX11_sent_11 rfl rfl ?_
    refine zc_get C K (v := .ref (b + 1)) 0 rfl hu_12 (by decide) cw_0 rfl fl_X11_10 rfl dX11_sent_12 ?_
    refine zc_get C K (v := .ref (b + 7)) 6 rfl hu_9 (by decide) (cw_at 1 rfl) rfl fl_X11_124 rfl dX11_sent_15 ?_
    refine hv_iload_n C 1 1 dX11_sent_18 rfl rfl ?_
    obtain ⟨p1, i1, o1⟩ := (hR : Rel9 ar b w0 A τ).l7.2 hn (by omega)
    refine zt_callV [.int (iz ((hn : Nat) : Int))] [] C K (cw_at 7 rfl) rfl (k_Jx4a65c_get_915e3 l 7 p1 τ hn rfl i1) ck_X11_146 (by decide) ⟨Nat.zero_le _, Nat.zero_le _⟩ rfl (Nat.le_of_ble_eq_true rfl) dX11_sent_19 ?_
    refine zc_cast C K (cw_ob o1) (hc := rfl) cl_X11_130 dX11_sent_22 ?_
    refine zc_get C K (v := .int (iz ((48 * (A (280 + 8 * hn + 1))) + (A (280 + 8 * hn + 2))))) 1 rfl hu_4 (by decide) (cw_ob o1) rfl fl_X11_153 rfl dX11_sent_25 ?_
    refine hv_iload_n C 2 2 dX11_sent_28 rfl rfl ?_
    refine hv_iadd C dX11_sent_29 ?_
    refine hv_istore_n C 3 [(3, .int (iz (((48 * (A (280 + 8 * hn + 1))) + (A (280 + 8 * hn + 2))) + i))), (0, .ref b), (1, .int (iz ((hn : Nat) : Int))), (2, .int (iz i))] dX11_sent_30 rfl (by decide) rfl ?_
    refine hv_iconst C dX11_sent_31 ?_
    refine hv_istore C 4 [(4, .int (iz 0)), (3, .int (iz (((48 * (A (280 + 8 * hn + 1))) + (A (280 + 8 * hn + 2))) + i))), (0, .ref b), (1, .int (iz ((hn : Nat) : Int))), (2, .int (iz i))] dX11_sent_32 (by decide) rfl ?_
    refine hv_iconst C dX11_sent_34 ?_
    refine hv_istore C 5 [(5, .int (iz 0)), (4, .int (iz 0)), (3, .int (iz (((48 * (A (280 + 8 * hn + 1))) + (A (280 + 8 * hn + 2))) + i))), (0, .ref b), (1, .int (iz ((hn : Nat) : Int))), (2, .int (iz i))] dX11_sent_35 (by decide) rfl ?_
    have L37 : ∀ (f : Nat) (bits : Nat) (s9 : Nat) (X : Nat → Int), (A 2).toNat - s9 < f → ((s9 : Int) ≤ A 2) → (bits = se A ((hn : Nat) : Int) (A (280 + 8 * hn + 1)) (A (280 + 8 * hn + 2) + i) s9) → hvV p l e { frames := 6, cells := 0, slots := 0, locals := 152 } s m args below meth c 6 B 0 0 (MQ below (zc_Q D B (fun r' w' n' => r' = (some (.int (iz (if ((0 ≤ ((hn : Nat) : Int) ∧ ((hn : Nat) : Int) ≤ A 4 - 1) ∧ (A 9 = -1 ∨ A ((280 + (8 * ((hn : Nat) : Int).toNat)) + 7) ≤ A 9)) ∧ (0 ≤ i ∧ i ≤ A ((280 + (8 * ((hn : Nat) : Int).toNat)) + 3) - 1) then ((se A ((hn : Nat) : Int) (A (280 + 8 * ((hn : Nat) : Int).toNat + 1)) (A (280 + 8 * ((hn : Nat) : Int).toNat + 2) + i) (A 2).toNat : Nat) : Int) else -1)))) ∧ (∃ X, w' = cw ar b (sA τ 18 X) w0) ∧ n' = n)) args s 0 0 B) (zc_I D B (cw ar b (sA τ 18 X) w0) n s.heap) 37 [(0, .ref b), (1, .int (iz ((hn : Nat) : Int))), (2, .int (iz i)), (3, .int (iz (((48 * (A (280 + 8 * hn + 1))) + (A (280 + 8 * hn + 2))) + i))), (4, .int (iz ((bits : Nat) : Int))), (5, .int (iz ((s9 : Nat) : Int)))] [] := by
      intro f
      induction f with
      | zero => intro _ _ _ hm; exact absurd hm (Nat.not_lt_zero _)
      | succ f ih37 =>
        intro bits s9 X hm37 hs9 hbt
        refine hv_iload C 5 5 dX11_sent_37 rfl ?_
        refine hv_aload_n C 0 0 dX11_sent_39 rfl rfl ?_
        refine zc_get C K (v := .ref (b + 1)) 0 rfl hu_12 (by decide) cw_0 rfl fl_X11_10 rfl dX11_sent_40 ?_
        refine zc_get C K (v := .ref (b + 3)) 2 rfl hu_9 (by decide) (cw_at 1 rfl) rfl fl_X11_75 rfl dX11_sent_43 ?_
        refine zt_callV [] [.int (iz ((s9 : Nat) : Int))] C K (cw_at 3 rfl) rfl (k_Jx4a65c_size_8abf5 l 3 (sA τ 18 X)  rfl) ck_X11_52 (by decide) ⟨Nat.zero_le _, Nat.zero_le _⟩ rfl (Nat.le_of_ble_eq_true rfl) dX11_sent_46 ?_
        refine hv_as ((τ 3 2)) rfl ?_
        refine hv_nm (fun x2 ex2 => ?_)
        have rx2 : inI x2 := by rw [ex2]; exact (by have z := hA 2; omega)
        refine hv_icmp_ge C 81 dX11_sent_49 (by decide) (by omega) (by omega) (fun h49 => ?_) (fun h49 => ?_)
        · skip
          refine hv_iload C 4 4 dX11_sent_81 rfl ?_
          exact zx_iret C hr hlk (by (try simp only [Int.toNat_natCast] at *); first | exact if_n (by omega) rfl | (refine if_p (by omega) ?_; rw [hbt, show (A 2).toNat = s9 by omega])) ⟨X, rfl⟩ dX11_sent_83
        · skip
          refine hv_aload_n C 0 0 dX11_sent_52 rfl rfl ?_
          refine zc_get C K (v := .ref (b + 1)) 0 rfl hu_12 (by decide) cw_0 rfl fl_X11_10 rfl dX11_sent_53 ?_
          refine hv_iload C 5 5 dX11_sent_56 rfl ?_
          refine hv_iload_n C 3 3 dX11_sent_58 rfl rfl ?_
          refine zx_callV [.int (iz ((s9 : Nat) : Int)), .int (iz (((48 * (A (280 + 8 * hn + 1))) + (A (280 + 8 * hn + 2))) + i))] [] C K (cw_at 1 rfl) rfl (k_X8_sentAt l A (A (280 + 8 * hn + 1)) (A (280 + 8 * hn + 2) + i) (sA τ 18 X) s9 (((48 * (A (280 + 8 * hn + 1))) + (A (280 + 8 * hn + 2))) + i) hA (by repeat (first | exact hR | refine rl_sA (by decide) ?_)) hs hh hl hlj hc hm hb (by omega) (by omega)) ck_X11_220 (by decide) ⟨Nat.zero_le _, Nat.zero_le _⟩ rfl (Nat.le_of_ble_eq_true rfl) dX11_sent_59 (fun X3 => ?_)
          refine hv_as ((sd A s9 (A (280 + 8 * hn + 1)) (A (280 + 8 * hn + 2) + i))) rfl ?_
          refine zt_st (τ2 := sA τ 18 X3) (by rw [sA_sA]) ?_
          refine hv_nm (fun x4 ex4 => ?_)
          have rx4 : inI x4 := by rw [ex4]; exact (by have z := sd_rng hc s9 (A (280 + 8 * hn + 1)) (A (280 + 8 * hn + 2) + i); exact ⟨by omega, by omega⟩)
          refine hv_iload_n C 1 1 dX11_sent_62 rfl rfl ?_
          refine hv_icmp_ne C 75 dX11_sent_63 (by decide) (by omega) (by omega) (fun h63 => ?_) (fun h63 => ?_)
          · skip
            refine hv_iinc C 5 5 [(5, .int (iz (((s9 : Nat) : Int) + 1))), (0, .ref b), (1, .int (iz ((hn : Nat) : Int))), (2, .int (iz i)), (3, .int (iz (((48 * (A (280 + 8 * hn + 1))) + (A (280 + 8 * hn + 2))) + i))), (4, .int (iz ((bits : Nat) : Int)))] dX11_sent_75 rfl (by decide) rfl ?_
            refine hv_goto C 37 dX11_sent_78 (by decide) ?_
            refine hv_loc [1, 2, 3, 4, 5, 0] [(0, .ref b), (1, .int (iz ((hn : Nat) : Int))), (2, .int (iz i)), (3, .int (iz (((48 * (A (280 + 8 * hn + 1))) + (A (280 + 8 * hn + 2))) + i))), (4, .int (iz ((bits : Nat) : Int))), (5, .int (iz (((s9 : Nat) : Int) + 1)))] rfl ?_
            exact ih37 bits (s9 + 1) X3 (by omega) (by omega) (by rw [se]; rw [← hbt]; first | (rw [if_pos (by omega)]; done) | (rw [if_neg (by omega), Nat.or_zero]))
          · skip
            refine hv_iload C 4 4 dX11_sent_66 rfl ?_
            refine hv_iconst C dX11_sent_68 ?_
            refine hv_iload C 5 5 dX11_sent_69 rfl ?_
            refine hv_ishl1 C s9 (by omega) (by omega) dX11_sent_71 ?_
            refine hv_iorn C bits (2 ^ s9) rfl (by simp) dX11_sent_72 ?_
            refine hv_istore C 4 [(4, .int (iz ((bits ||| (2 ^ s9) : Nat) : Int))), (0, .ref b), (1, .int (iz ((hn : Nat) : Int))), (2, .int (iz i)), (3, .int (iz (((48 * (A (280 + 8 * hn + 1))) + (A (280 + 8 * hn + 2))) + i))), (5, .int (iz ((s9 : Nat) : Int)))] dX11_sent_73 (by decide) rfl ?_
            refine hv_iinc C 5 5 [(5, .int (iz (((s9 : Nat) : Int) + 1))), (4, .int (iz ((bits ||| (2 ^ s9) : Nat) : Int))), (0, .ref b), (1, .int (iz ((hn : Nat) : Int))), (2, .int (iz i)), (3, .int (iz (((48 * (A (280 + 8 * hn + 1))) + (A (280 + 8 * hn + 2))) + i)))] dX11_sent_75 rfl (by decide) rfl ?_
            refine hv_goto C 37 dX11_sent_78 (by decide) ?_
            refine hv_loc [2, 3, 4, 5, 1, 0] [(0, .ref b), (1, .int (iz ((hn : Nat) : Int))), (2, .int (iz i)), (3, .int (iz (((48 * (A (280 + 8 * hn + 1))) + (A (280 + 8 * hn + 2))) + i))), (4, .int (iz ((bits ||| (2 ^ s9) : Nat) : Int))), (5, .int (iz (((s9 : Nat) : Int) + 1)))] rfl ?_
            exact ih37 (bits ||| (2 ^ s9)) (s9 + 1) X3 (by omega) (by omega) (by rw [se]; rw [← hbt]; first | (rw [if_pos (by omega)]; done) | (rw [if_neg (by omega), Nat.or_zero]))
    refine hv_loc [3, 4, 5, 2, 1, 0] [(0, .ref b), (1, .int (iz ((hn : Nat) : Int))), (2, .int (iz i)), (3, .int (iz (((48 * (A (280 + 8 * hn + 1))) + (A (280 + 8 * hn + 2))) + i))), (4, .int (iz 0)), (5, .int (iz 0))] rfl ?_
    refine zt_st (τ2 := sA τ 18 (τ 18)) ((sA_id τ 18).symm) ?_
    exact L37 _ 0 0 (τ 18) (Nat.lt_succ_self _) (by omega) rfl
  · skip
    refine hv_iconst C dX11_sent_9 ?_
    exact zx_iret C hr hlk (by (try simp only [Int.toNat_natCast] at *); first | exact if_n (by omega) rfl | (refine if_p (by omega) ?_; rw [hbt, show (A 2).toNat = s9 by omega])) ⟨τ 18, (sA_id τ 18).symm⟩ dX11_sent_10
