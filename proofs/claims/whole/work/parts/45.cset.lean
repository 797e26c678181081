theorem dX11_town_0 : decode cX11_town 0 = .ok (.aload_n 0, 1) := by decide +kernel
theorem dX11_town_1 : decode cX11_town 1 = .ok (.getfield 10, 3) := by decide +kernel
theorem dX11_town_4 : decode cX11_town 4 = .ok (.getfield 44, 3) := by decide +kernel
theorem dX11_town_7 : decode cX11_town 7 = .ok (.bipush 8, 2) := by decide +kernel
theorem dX11_town_9 : decode cX11_town 9 = .ok (.if_icmp .lt 5, 3) := by decide +kernel
theorem dX11_town_12 : decode cX11_town 12 = .ok (.iconst (-1), 1) := by decide +kernel
theorem dX11_town_13 : decode cX11_town 13 = .ok (.ireturn, 1) := by decide +kernel
theorem dX11_town_14 : decode cX11_town 14 = .ok (.aload_n 0, 1) := by decide +kernel
theorem dX11_town_15 : decode cX11_town 15 = .ok (.getfield 10, 3) := by decide +kernel
theorem dX11_town_18 : decode cX11_town 18 = .ok (.dup, 1) := by decide +kernel
theorem dX11_town_19 : decode cX11_town 19 = .ok (.getfield 44, 3) := by decide +kernel
theorem dX11_town_22 : decode cX11_town 22 = .ok (.iconst 1, 1) := by decide +kernel
theorem dX11_town_23 : decode cX11_town 23 = .ok (.iadd, 1) := by decide +kernel
theorem dX11_town_24 : decode cX11_town 24 = .ok (.putfield 44, 3) := by decide +kernel
theorem dX11_town_27 : decode cX11_town 27 = .ok (.aload_n 0, 1) := by decide +kernel
theorem dX11_town_28 : decode cX11_town 28 = .ok (.getfield 10, 3) := by decide +kernel
theorem dX11_town_31 : decode cX11_town 31 = .ok (.getfield 44, 3) := by decide +kernel
theorem dX11_town_34 : decode cX11_town 34 = .ok (.iconst 1, 1) := by decide +kernel
theorem dX11_town_35 : decode cX11_town 35 = .ok (.isub, 1) := by decide +kernel
theorem dX11_town_36 : decode cX11_town 36 = .ok (.ireturn, 1) := by decide +kernel
set_option maxRecDepth 100000 in
set_option maxHeartbeats 4000000 in
theorem k_X11_town (l : Launch) {D : va_G} {ar : Nat → ClassId} {B : Nat → Prop} {b n : Nat} {w0 : zcW} (A : Nat → Int) (τ : Nat → Nat → Int)  (hA : ∀ i, inI (A i)) (hR : Rel9 ar b w0 A τ) (hc : cn A) : zt_M l D ar B b w0 n yX11_town cX11_town 1 (some .int) 0 0 [.ref b] τ (some (.int (iz (if A 0 = 8 then -1 else A 0)))) (if A 0 = 8 then τ else sA τ 1 (ua (τ 1) 0 (A 0 + 1))) := by
  refine zc_start (own := RX11) (by decide +kernel) rfl (Nat.le_of_ble_eq_true rfl) ?_
  intro p e s m args below meth c C K hr hlk hnam
  have zi := hR.i
  unfold rlI at zi
  refine hv_aload_n C 0 0 dX11_town_0 rfl rfl ?_
  refine zc_get C K (v := .ref (b + 1)) 0 rfl hu_12 (by decide) cw_0 rfl fl_X11_10 rfl dX11_town_1 ?_
  refine zc_get C K (v := .int (iz (τ 1 0))) 0 rfl hu_9 (by decide) (cw_at 1 rfl) rfl fl_X11_44 rfl dX11_town_4 ?_
  refine hv_nm (fun x1 ex1 => ?_)
  have rx1 : inI x1 := by rw [ex1]; exact (by have z := hA 0; omega)
  refine hv_bipush C dX11_town_7 (by decide) ?_
  refine hv_icmp_lt C 14 dX11_town_9 (by decide) (by omega) (by omega) (fun h9 => ?_) (fun h9 => ?_)
  · skip
    refine hv_aload_n C 0 0 dX11_town_14 rfl rfl ?_
    refine zc_get C K (v := .ref (b + 1)) 0 rfl hu_12 (by decide) cw_0 rfl fl_X11_10 rfl dX11_town_15 ?_
    refine hv_dup C dX11_town_18 rfl ?_
    refine zc_get C K (v := .int (iz (τ 1 0))) 0 rfl hu_9 (by decide) (cw_at 1 rfl) rfl fl_X11_44 rfl dX11_town_19 ?_
    refine hv_nm (fun x2 ex2 => ?_)
    have rx2 : inI x2 := by rw [ex2]; exact (by have z := hA 0; omega)
    refine hv_iconst C dX11_town_22 ?_
    refine hv_iadd C dX11_town_23 ?_
    refine zc_put C K 0 rfl hu_9 tyX8 tyX8_ok nmX8 (by decide) (cw_at 1 rfl) (cw_set 1 0 (x2 + 1) rfl) fl_X11_44 rfl rfl (ty := .int) (by decide +kernel) rfl rfl (Nat.le_of_ble_eq_true rfl) dX11_town_24 ?_
    refine zt_st (τ2 := sA τ 1 (ua (τ 1) 0 (x2 + 1))) (by rw [u2_sA]; first | done | rfl) ?_
    refine hv_aload_n C 0 0 dX11_town_27 rfl rfl ?_
    refine zc_get C K (v := .ref (b + 1)) 0 rfl hu_12 (by decide) cw_0 rfl fl_X11_10 rfl dX11_town_28 ?_
    refine zc_get C K (v := .int (iz (x2 + 1))) 0 rfl hu_9 (by decide) (cw_at 1 rfl) rfl fl_X11_44 rfl dX11_town_31 ?_
    refine hv_iconst C dX11_town_34 ?_
    refine hv_isub C dX11_town_35 ?_
    exact zt_iret C hr hlk (by first | exact if_p (by omega) rfl | (refine if_n (by omega) ?_; omega)) (by first | exact if_p (by omega) rfl | (refine if_n (by omega) ?_; exact congrArg (fun z9 => sA τ 1 (ua (τ 1) 0 z9)) (by omega))) dX11_town_36
  · skip
    refine hv_iconst C dX11_town_12 ?_
    exact zt_iret C hr hlk (by first | exact if_p (by omega) rfl | (refine if_n (by omega) ?_; omega)) (by first | exact if_p (by omega) rfl | (refine if_n (by omega) ?_; exact congrArg (fun z9 => sA τ 1 (ua (τ 1) 0 z9)) (by omega))) dX11_town_13
theorem dX11_summer_0 : decode cX11_summer 0 = .ok (.iload_n 1, 1) := by decide +kernel
theorem dX11_summer_1 : decode cX11_summer 1 = .ok (.invokestatic 78, 3) := by decide +kernel
theorem dX11_summer_4 : decode cX11_summer 4 = .ok (.ifCond .eq 17, 3) := by decide +kernel
theorem dX11_summer_7 : decode cX11_summer 7 = .ok (.iload_n 2, 1) := by decide +kernel
theorem dX11_summer_8 : decode cX11_summer 8 = .ok (.invokestatic 86, 3) := by decide +kernel
theorem dX11_summer_11 : decode cX11_summer 11 = .ok (.ifCond .eq 10, 3) := by decide +kernel
theorem dX11_summer_14 : decode cX11_summer 14 = .ok (.iload_n 3, 1) := by decide +kernel
theorem dX11_summer_15 : decode cX11_summer 15 = .ok (.invokestatic 86, 3) := by decide +kernel
theorem dX11_summer_18 : decode cX11_summer 18 = .ok (.ifCond .ne 5, 3) := by decide +kernel
theorem dX11_summer_21 : decode cX11_summer 21 = .ok (.iconst 0, 1) := by decide +kernel
theorem dX11_summer_22 : decode cX11_summer 22 = .ok (.ireturn, 1) := by decide +kernel
theorem dX11_summer_23 : decode cX11_summer 23 = .ok (.aload_n 0, 1) := by decide +kernel
theorem dX11_summer_24 : decode cX11_summer 24 = .ok (.getfield 10, 3) := by decide +kernel
theorem dX11_summer_27 : decode cX11_summer 27 = .ok (.getfield 89, 3) := by decide +kernel
theorem dX11_summer_30 : decode cX11_summer 30 = .ok (.iconst 2, 1) := by decide +kernel
theorem dX11_summer_31 : decode cX11_summer 31 = .ok (.iload_n 1, 1) := by decide +kernel
theorem dX11_summer_32 : decode cX11_summer 32 = .ok (.imul, 1) := by decide +kernel
theorem dX11_summer_33 : decode cX11_summer 33 = .ok (.iload_n 2, 1) := by decide +kernel
theorem dX11_summer_34 : decode cX11_summer 34 = .ok (.iastore, 1) := by decide +kernel
theorem dX11_summer_35 : decode cX11_summer 35 = .ok (.aload_n 0, 1) := by decide +kernel
theorem dX11_summer_36 : decode cX11_summer 36 = .ok (.getfield 10, 3) := by decide +kernel
theorem dX11_summer_39 : decode cX11_summer 39 = .ok (.getfield 89, 3) := by decide +kernel
theorem dX11_summer_42 : decode cX11_summer 42 = .ok (.iconst 2, 1) := by decide +kernel
theorem dX11_summer_43 : decode cX11_summer 43 = .ok (.iload_n 1, 1) := by decide +kernel
theorem dX11_summer_44 : decode cX11_summer 44 = .ok (.imul, 1) := by decide +kernel
theorem dX11_summer_45 : decode cX11_summer 45 = .ok (.iconst 1, 1) := by decide +kernel
theorem dX11_summer_46 : decode cX11_summer 46 = .ok (.iadd, 1) := by decide +kernel
theorem dX11_summer_47 : decode cX11_summer 47 = .ok (.iload_n 3, 1) := by decide +kernel
theorem dX11_summer_48 : decode cX11_summer 48 = .ok (.iastore, 1) := by decide +kernel
theorem dX11_summer_49 : decode cX11_summer 49 = .ok (.iconst 1, 1) := by decide +kernel
theorem dX11_summer_50 : decode cX11_summer 50 = .ok (.ireturn, 1) := by decide +kernel
theorem fl_X11_89 : Cond.fieldLink RX11 89 "HookUps$Told" (TX8 4).2.1 (TX8 4).2.2.1 ∈ hk_tb := hk_tq1 135 (by decide +kernel) (by decide +kernel)
set_option maxRecDepth 100000 in
set_option maxHeartbeats 4000000 in
theorem k_X11_summer (l : Launch) {D : va_G} {ar : Nat → ClassId} {B : Nat → Prop} {b n : Nat} {w0 : zcW} (A : Nat → Int) (τ : Nat → Nat → Int) (zone : Int) (fr : Int) (to : Int) (hA : ∀ i, inI (A i)) (hR : Rel9 ar b w0 A τ) (r_zone : inI zone) (r_fr : inI fr) (r_to : inI to) : zt_M l D ar B b w0 n yX11_summer cX11_summer 4 (some .boolean) 2 42 [.ref b, .int (iz zone), .int (iz fr), .int (iz to)] τ (some (.int (iz (xb (decide ((0 ≤ zone ∧ zone ≤ 3) ∧ (0 ≤ fr ∧ fr ≤ 199) ∧ (0 ≤ to ∧ to ≤ 199))))))) (if (0 ≤ zone ∧ zone ≤ 3) ∧ (0 ≤ fr ∧ fr ≤ 199) ∧ (0 ≤ to ∧ to ≤ 199) then sA τ 5 (ua (ua (τ 5) (2 * zone.toNat) fr) (2 * zone.toNat + 1) to) else τ) := by
  refine zc_start (own := RX11) (by decide +kernel) rfl (Nat.le_of_ble_eq_true rfl) ?_
  intro p e s m args below meth c C K hr hlk hnam
  refine hv_iload_n C 1 1 dX11_summer_0 rfl rfl ?_
  refine zt_callS [.int (iz zone)] [] C K (k_X11_isZone l  τ zone (by omega)) ck_X11_78 (by decide) ⟨Nat.zero_le _, Nat.zero_le _⟩ rfl (Nat.le_of_ble_eq_true rfl) dX11_summer_1 ?_
  refine hv_as (xb (decide (0 ≤ zone ∧ zone ≤ 3))) rfl ?_
  refine hv_dif_eq C 21 dX11_summer_4 (by decide)  (fun h4 => ?_) (fun h4 => ?_)
  · skip
    refine hv_iconst C dX11_summer_21 ?_
    exact zt_zret C hr hlk ((xb_f (decide_eq_false (by (try simp only [Int.toNat_natCast] at *); omega))).symm) (by (try simp only [Int.toNat_natCast] at *); first | exact if_p (by omega) rfl | exact if_n (by omega) rfl) dX11_summer_22
  · skip
    refine hv_iload_n C 2 2 dX11_summer_7 rfl rfl ?_
    refine zt_callS [.int (iz fr)] [] C K (k_X11_isDay l  τ fr (by omega)) ck_X11_86 (by decide) ⟨Nat.zero_le _, Nat.zero_le _⟩ rfl (Nat.le_of_ble_eq_true rfl) dX11_summer_8 ?_
    refine hv_as (xb (decide (0 ≤ fr ∧ fr ≤ 199))) rfl ?_
    refine hv_dif_eq C 21 dX11_summer_11 (by decide)  (fun h11 => ?_) (fun h11 => ?_)
    · skip
      refine hv_iconst C dX11_summer_21 ?_
      exact zt_zret C hr hlk ((xb_f (decide_eq_false (by (try simp only [Int.toNat_natCast] at *); omega))).symm) (by (try simp only [Int.toNat_natCast] at *); first | exact if_p (by omega) rfl | exact if_n (by omega) rfl) dX11_summer_22
    · skip
      refine hv_iload_n C 3 3 dX11_summer_14 rfl rfl ?_
      refine zt_callS [.int (iz to)] [] C K (k_X11_isDay l  τ to (by omega)) ck_X11_86 (by decide) ⟨Nat.zero_le _, Nat.zero_le _⟩ rfl (Nat.le_of_ble_eq_true rfl) dX11_summer_15 ?_
      refine hv_as (xb (decide (0 ≤ to ∧ to ≤ 199))) rfl ?_
      refine hv_dif_ne C 23 dX11_summer_18 (by decide)  (fun h18 => ?_) (fun h18 => ?_)
      · skip
        obtain ⟨zn, rfl⟩ : ∃ n9 : Nat, zone = (n9 : Int) := ⟨(zone).toNat, by omega⟩
        refine hv_aload_n C 0 0 dX11_summer_23 rfl rfl ?_
        refine zc_get C K (v := .ref (b + 1)) 0 rfl hu_12 (by decide) cw_0 rfl fl_X11_10 rfl dX11_summer_24 ?_
        refine zc_get C K (v := .ref (b + 5)) 4 rfl hu_9 (by decide) (cw_at 1 rfl) rfl fl_X11_89 rfl dX11_summer_27 ?_
        refine hv_iconst C dX11_summer_30 ?_
        refine hv_iload_n C 1 1 dX11_summer_31 rfl rfl ?_
        refine hv_imul C dX11_summer_32 ?_
        refine hv_iload_n C 2 2 dX11_summer_33 rfl rfl ?_
        refine zc_iast C K (f := (τ 5)) (2 * zn) (cw_at 5 rfl) (cw_set 5 (2 * zn) fr rfl) (by omega) (by omega) (by decide) dX11_summer_34 ?_
        refine zt_st (τ2 := sA τ 5 (ua (τ 5) (2 * zn) fr)) (by rw [u2_sA]; first | done | rfl) ?_
        refine hv_aload_n C 0 0 dX11_summer_35 rfl rfl ?_
        refine zc_get C K (v := .ref (b + 1)) 0 rfl hu_12 (by decide) cw_0 rfl fl_X11_10 rfl dX11_summer_36 ?_
        refine zc_get C K (v := .ref (b + 5)) 4 rfl hu_9 (by decide) (cw_at 1 rfl) rfl fl_X11_89 rfl dX11_summer_39 ?_
        refine hv_iconst C dX11_summer_42 ?_
        refine hv_iload_n C 1 1 dX11_summer_43 rfl rfl ?_
        refine hv_imul C dX11_summer_44 ?_
        refine hv_iconst C dX11_summer_45 ?_
        refine hv_iadd C dX11_summer_46 ?_
        refine hv_iload_n C 3 3 dX11_summer_47 rfl rfl ?_
        refine zc_iast C K (f := (ua (τ 5) (2 * zn) fr)) ((2 * zn) + 1) (cw_at 5 rfl) (cw_set 5 ((2 * zn) + 1) to rfl) (by omega) (by omega) (by decide) dX11_summer_48 ?_
        refine zt_st (τ2 := sA τ 5 (ua (ua (τ 5) (2 * zn) fr) ((2 * zn) + 1) to)) (by rw [u2_sA, sA_sA]; first | done | rfl) ?_
        refine hv_iconst C dX11_summer_49 ?_
        exact zt_zret C hr hlk ((xb_t (decide_eq_true (by (try simp only [Int.toNat_natCast] at *); omega))).symm) (by (try simp only [Int.toNat_natCast] at *); first | exact if_p (by omega) rfl | exact if_n (by omega) rfl) dX11_summer_50
      · skip
        refine hv_iconst C dX11_summer_21 ?_
        exact zt_zret C hr hlk ((xb_f (decide_eq_false (by (try simp only [Int.toNat_natCast] at *); omega))).symm) (by (try simp only [Int.toNat_natCast] at *); first | exact if_p (by omega) rfl | exact if_n (by omega) rfl) dX11_summer_22
theorem dX11_day_0 : decode cX11_day 0 = .ok (.iload_n 1, 1) := by decide +kernel
theorem dX11_day_1 : decode cX11_day 1 = .ok (.invokestatic 86, 3) := by decide +kernel
theorem dX11_day_4 : decode cX11_day 4 = .ok (.ifCond .eq 14, 3) := by decide +kernel
theorem dX11_day_7 : decode cX11_day 7 = .ok (.iload_n 1, 1) := by decide +kernel
theorem dX11_day_8 : decode cX11_day 8 = .ok (.aload_n 0, 1) := by decide +kernel
theorem dX11_day_9 : decode cX11_day 9 = .ok (.getfield 10, 3) := by decide +kernel
theorem dX11_day_12 : decode cX11_day 12 = .ok (.getfield 103, 3) := by decide +kernel
theorem dX11_day_15 : decode cX11_day 15 = .ok (.if_icmp .ge 5, 3) := by decide +kernel
theorem dX11_day_18 : decode cX11_day 18 = .ok (.iconst 0, 1) := by decide +kernel
theorem dX11_day_19 : decode cX11_day 19 = .ok (.ireturn, 1) := by decide +kernel
theorem dX11_day_20 : decode cX11_day 20 = .ok (.aload_n 0, 1) := by decide +kernel
theorem dX11_day_21 : decode cX11_day 21 = .ok (.getfield 10, 3) := by decide +kernel
theorem dX11_day_24 : decode cX11_day 24 = .ok (.iload_n 1, 1) := by decide +kernel
theorem dX11_day_25 : decode cX11_day 25 = .ok (.putfield 103, 3) := by decide +kernel
theorem dX11_day_28 : decode cX11_day 28 = .ok (.iconst 1, 1) := by decide +kernel
theorem dX11_day_29 : decode cX11_day 29 = .ok (.ireturn, 1) := by decide +kernel
set_option maxRecDepth 100000 in
set_option maxHeartbeats 4000000 in
theorem k_X11_day (l : Launch) {D : va_G} {ar : Nat → ClassId} {B : Nat → Prop} {b n : Nat} {w0 : zcW} (A : Nat → Int) (τ : Nat → Nat → Int) (d : Int) (hA : ∀ i, inI (A i)) (hR : Rel9 ar b w0 A τ) (hc : cn A) (r_d : inI d) : zt_M l D ar B b w0 n yX11_day cX11_day 2 (some .boolean) 2 42 [.ref b, .int (iz d)] τ (some (.int (iz (xb (decide ((A 8 ≤ d ∧ d ≤ 199))))))) (if (A 8 ≤ d ∧ d ≤ 199) then sA τ 1 (ua (τ 1) 8 d) else τ) := by
  refine zc_start (own := RX11) (by decide +kernel) rfl (Nat.le_of_ble_eq_true rfl) ?_
  intro p e s m args below meth c C K hr hlk hnam
  have zi := hR.i
  unfold rlI at zi
  refine hv_iload_n C 1 1 dX11_day_0 rfl rfl ?_
  refine zt_callS [.int (iz d)] [] C K (k_X11_isDay l  τ d (by omega)) ck_X11_86 (by decide) ⟨Nat.zero_le _, Nat.zero_le _⟩ rfl (Nat.le_of_ble_eq_true rfl) dX11_day_1 ?_
  refine hv_as (xb (decide (0 ≤ d ∧ d ≤ 199))) rfl ?_
  refine hv_dif_eq C 18 dX11_day_4 (by decide)  (fun h4 => ?_) (fun h4 => ?_)
  · skip
    refine hv_iconst C dX11_day_18 ?_
    exact zt_zret C hr hlk ((xb_f (decide_eq_false (by omega))).symm) (by (try simp only [Int.toNat_natCast] at *); first | exact if_p (by omega) rfl | exact if_n (by omega) rfl) dX11_day_19
  · skip
    refine hv_iload_n C 1 1 dX11_day_7 rfl rfl ?_
    refine hv_aload_n C 0 0 dX11_day_8 rfl rfl ?_
    refine zc_get C K (v := .ref (b + 1)) 0 rfl hu_12 (by decide) cw_0 rfl fl_X11_10 rfl dX11_day_9 ?_
    refine zc_get C K (v := .int (iz (τ 1 8))) 8 rfl hu_9 (by decide) (cw_at 1 rfl) rfl fl_X11_103 rfl dX11_day_12 ?_
    refine hv_nm (fun x1 ex1 => ?_)
    have rx1 : inI x1 := by rw [ex1]; exact (by have z := hA 8; omega)
    refine hv_icmp_ge C 20 dX11_day_15 (by decide) (by omega) (by omega) (fun h15 => ?_) (fun h15 => ?_)
    · skip
      refine hv_aload_n C 0 0 dX11_day_20 rfl rfl ?_
      refine zc_get C K (v := .ref (b + 1)) 0 rfl hu_12 (by decide) cw_0 rfl fl_X11_10 rfl dX11_day_21 ?_
      refine hv_iload_n C 1 1 dX11_day_24 rfl rfl ?_
      refine zc_put C K 8 rfl hu_9 tyX8 tyX8_ok nmX8 (by decide) (cw_at 1 rfl) (cw_set 1 8 d rfl) fl_X11_103 rfl rfl (ty := .int) (by decide +kernel) rfl rfl (Nat.le_of_ble_eq_true rfl) dX11_day_25 ?_
      refine zt_st (τ2 := sA τ 1 (ua (τ 1) 8 d)) (by rw [u2_sA]; first | done | rfl) ?_
      refine hv_iconst C dX11_day_28 ?_
      exact zt_zret C hr hlk ((xb_t (decide_eq_true (by omega))).symm) (by (try simp only [Int.toNat_natCast] at *); first | exact if_p (by omega) rfl | exact if_n (by omega) rfl) dX11_day_29
    · skip
      refine hv_iconst C dX11_day_18 ?_
      exact zt_zret C hr hlk ((xb_f (decide_eq_false (by omega))).symm) (by (try simp only [Int.toNat_natCast] at *); first | exact if_p (by omega) rfl | exact if_n (by omega) rfl) dX11_day_19
theorem dX11_view_0 : decode cX11_view 0 = .ok (.iload_n 1, 1) := by decide +kernel
theorem dX11_view_1 : decode cX11_view 1 = .ok (.iconst (-1), 1) := by decide +kernel
theorem dX11_view_2 : decode cX11_view 2 = .ok (.aload_n 0, 1) := by decide +kernel
theorem dX11_view_3 : decode cX11_view 3 = .ok (.getfield 10, 3) := by decide +kernel
theorem dX11_view_6 : decode cX11_view 6 = .ok (.getfield 103, 3) := by decide +kernel
theorem dX11_view_9 : decode cX11_view 9 = .ok (.invokestatic 62, 3) := by decide +kernel
theorem dX11_view_12 : decode cX11_view 12 = .ok (.ifCond .ne 5, 3) := by decide +kernel
theorem dX11_view_15 : decode cX11_view 15 = .ok (.iconst 0, 1) := by decide +kernel
theorem dX11_view_16 : decode cX11_view 16 = .ok (.ireturn, 1) := by decide +kernel
theorem dX11_view_17 : decode cX11_view 17 = .ok (.aload_n 0, 1) := by decide +kernel
theorem dX11_view_18 : decode cX11_view 18 = .ok (.getfield 10, 3) := by decide +kernel
theorem dX11_view_21 : decode cX11_view 21 = .ok (.iload_n 1, 1) := by decide +kernel
theorem dX11_view_22 : decode cX11_view 22 = .ok (.putfield 106, 3) := by decide +kernel
theorem dX11_view_25 : decode cX11_view 25 = .ok (.iconst 1, 1) := by decide +kernel
theorem dX11_view_26 : decode cX11_view 26 = .ok (.ireturn, 1) := by decide +kernel
set_option maxRecDepth 100000 in
set_option maxHeartbeats 4000000 in
theorem k_X11_view (l : Launch) {D : va_G} {ar : Nat → ClassId} {B : Nat → Prop} {b n : Nat} {w0 : zcW} (A : Nat → Int) (τ : Nat → Nat → Int) (d : Int) (hA : ∀ i, inI (A i)) (hR : Rel9 ar b w0 A τ) (hc : cn A) (r_d : inI d) : zt_M l D ar B b w0 n yX11_view cX11_view 2 (some .boolean) 1 22 [.ref b, .int (iz d)] τ (some (.int (iz (xb (decide ((d = -1 ∨ (0 ≤ d ∧ d ≤ A 8)))))))) (if (d = -1 ∨ (0 ≤ d ∧ d ≤ A 8)) then sA τ 1 (ua (τ 1) 9 d) else τ) := by
  refine zc_start (own := RX11) (by decide +kernel) rfl (Nat.le_of_ble_eq_true rfl) ?_
  intro p e s m args below meth c C K hr hlk hnam
  have zi := hR.i
  unfold rlI at zi
  refine hv_iload_n C 1 1 dX11_view_0 rfl rfl ?_
  refine hv_iconst C dX11_view_1 ?_
  refine hv_aload_n C 0 0 dX11_view_2 rfl rfl ?_
  refine zc_get C K (v := .ref (b + 1)) 0 rfl hu_12 (by decide) cw_0 rfl fl_X11_10 rfl dX11_view_3 ?_
  refine zc_get C K (v := .int (iz (τ 1 8))) 8 rfl hu_9 (by decide) (cw_at 1 rfl) rfl fl_X11_103 rfl dX11_view_6 ?_
  refine hv_nm (fun x1 ex1 => ?_)
  have rx1 : inI x1 := by rw [ex1]; exact (by have z := hA 8; omega)
  refine zt_callS [.int (iz d), .int (iz (-1)), .int (iz x1)] [] C K (k_X11_within l  τ d (-1) x1 (by omega) (by omega) (by omega)) ck_X11_62 (by decide) ⟨Nat.zero_le _, Nat.zero_le _⟩ rfl (Nat.le_of_ble_eq_true rfl) dX11_view_9 ?_
  refine hv_as (xb (decide ((-1) ≤ d ∧ d ≤ x1))) rfl ?_
  refine hv_dif_ne C 17 dX11_view_12 (by decide)  (fun h12 => ?_) (fun h12 => ?_)
  · skip
    refine hv_aload_n C 0 0 dX11_view_17 rfl rfl ?_
    refine zc_get C K (v := .ref (b + 1)) 0 rfl hu_12 (by decide) cw_0 rfl fl_X11_10 rfl dX11_view_18 ?_
    refine hv_iload_n C 1 1 dX11_view_21 rfl rfl ?_
    refine zc_put C K 9 rfl hu_9 tyX8 tyX8_ok nmX8 (by decide) (cw_at 1 rfl) (cw_set 1 9 d rfl) fl_X11_106 rfl rfl (ty := .int) (by decide +kernel) rfl rfl (Nat.le_of_ble_eq_true rfl) dX11_view_22 ?_
    refine zt_st (τ2 := sA τ 1 (ua (τ 1) 9 d)) (by rw [u2_sA]; first | done | rfl) ?_
    refine hv_iconst C dX11_view_25 ?_
    exact zt_zret C hr hlk ((xb_t (decide_eq_true (by omega))).symm) (by (try simp only [Int.toNat_natCast] at *); first | exact if_p (by omega) rfl | exact if_n (by omega) rfl) dX11_view_26
  · skip
    refine hv_iconst C dX11_view_15 ?_
    exact zt_zret C hr hlk ((xb_f (decide_eq_false (by omega))).symm) (by (try simp only [Int.toNat_natCast] at *); first | exact if_p (by omega) rfl | exact if_n (by omega) rfl) dX11_view_16
theorem dX11_hands_0 : decode cX11_hands 0 = .ok (.iload_n 1, 1) := by decide +kernel
theorem dX11_hands_1 : decode cX11_hands 1 = .ok (.iconst 1, 1) := by decide +kernel
theorem dX11_hands_2 : decode cX11_hands 2 = .ok (.iconst 3, 1) := by decide +kernel
theorem dX11_hands_3 : decode cX11_hands 3 = .ok (.invokestatic 62, 3) := by decide +kernel
theorem dX11_hands_6 : decode cX11_hands 6 = .ok (.ifCond .ne 5, 3) := by decide +kernel
theorem dX11_hands_9 : decode cX11_hands 9 = .ok (.iconst 0, 1) := by decide +kernel
theorem dX11_hands_10 : decode cX11_hands 10 = .ok (.ireturn, 1) := by decide +kernel
theorem dX11_hands_11 : decode cX11_hands 11 = .ok (.aload_n 0, 1) := by decide +kernel
theorem dX11_hands_12 : decode cX11_hands 12 = .ok (.getfield 10, 3) := by decide +kernel
theorem dX11_hands_15 : decode cX11_hands 15 = .ok (.iload_n 1, 1) := by decide +kernel
theorem dX11_hands_16 : decode cX11_hands 16 = .ok (.putfield 234, 3) := by decide +kernel
theorem dX11_hands_19 : decode cX11_hands 19 = .ok (.iconst 1, 1) := by decide +kernel
theorem dX11_hands_20 : decode cX11_hands 20 = .ok (.ireturn, 1) := by decide +kernel
set_option maxRecDepth 100000 in
set_option maxHeartbeats 4000000 in
theorem k_X11_hands (l : Launch) {D : va_G} {ar : Nat → ClassId} {B : Nat → Prop} {b n : Nat} {w0 : zcW} (A : Nat → Int) (τ : Nat → Nat → Int) (h : Int) (hA : ∀ i, inI (A i)) (hR : Rel9 ar b w0 A τ) (hc : cn A) (r_h : inI h) : zt_M l D ar B b w0 n yX11_hands cX11_hands 2 (some .boolean) 1 22 [.ref b, .int (iz h)] τ (some (.int (iz (xb (decide ((1 ≤ h ∧ h ≤ 3))))))) (if (1 ≤ h ∧ h ≤ 3) then sA τ 1 (ua (τ 1) 10 h) else τ) := by
  refine zc_start (own := RX11) (by decide +kernel) rfl (Nat.le_of_ble_eq_true rfl) ?_
  intro p e s m args below meth c C K hr hlk hnam
  have zi := hR.i
  unfold rlI at zi
  refine hv_iload_n C 1 1 dX11_hands_0 rfl rfl ?_
  refine hv_iconst C dX11_hands_1 ?_
  refine hv_iconst C dX11_hands_2 ?_
  refine zt_callS [.int (iz h), .int (iz 1), .int (iz 3)] [] C K (k_X11_within l  τ h 1 3 (by omega) (by omega) (by omega)) ck_X11_62 (by decide) ⟨Nat.zero_le _, Nat.zero_le _⟩ rfl (Nat.le_of_ble_eq_true rfl) dX11_hands_3 ?_
  refine hv_as (xb (decide (1 ≤ h ∧ h ≤ 3))) rfl ?_
  refine hv_dif_ne C 11 dX11_hands_6 (by decide)  (fun h6 => ?_) (fun h6 => ?_)
  · skip
    refine hv_aload_n C 0 0 dX11_hands_11 rfl rfl ?_
    refine zc_get C K (v := .ref (b + 1)) 0 rfl hu_12 (by decide) cw_0 rfl fl_X11_10 rfl dX11_hands_12 ?_
    refine hv_iload_n C 1 1 dX11_hands_15 rfl rfl ?_
    refine zc_put C K 10 rfl hu_9 tyX8 tyX8_ok nmX8 (by decide) (cw_at 1 rfl) (cw_set 1 10 h rfl) fl_X11_234 rfl rfl (ty := .int) (by decide +kernel) rfl rfl (Nat.le_of_ble_eq_true rfl) dX11_hands_16 ?_
    refine zt_st (τ2 := sA τ 1 (ua (τ 1) 10 h)) (by rw [u2_sA]; first | done | rfl) ?_
    refine hv_iconst C dX11_hands_19 ?_
    exact zt_zret C hr hlk ((xb_t (decide_eq_true (by omega))).symm) (by (try simp only [Int.toNat_natCast] at *); first | exact if_p (by omega) rfl | exact if_n (by omega) rfl) dX11_hands_20
  · skip
    refine hv_iconst C dX11_hands_9 ?_
    exact zt_zret C hr hlk ((xb_f (decide_eq_false (by omega))).symm) (by (try simp only [Int.toNat_natCast] at *); first | exact if_p (by omega) rfl | exact if_n (by omega) rfl) dX11_hands_10
theorem dX11_end_0 : decode cX11_end 0 = .ok (.iload_n 1, 1) := by decide +kernel
theorem dX11_end_1 : decode cX11_end 1 = .ok (.iconst 0, 1) := by decide +kernel
theorem dX11_end_2 : decode cX11_end 2 = .ok (.aload_n 0, 1) := by decide +kernel
theorem dX11_end_3 : decode cX11_end 3 = .ok (.getfield 10, 3) := by decide +kernel
theorem dX11_end_6 : decode cX11_end 6 = .ok (.getfield 170, 3) := by decide +kernel
theorem dX11_end_9 : decode cX11_end 9 = .ok (.invokestatic 62, 3) := by decide +kernel
theorem dX11_end_12 : decode cX11_end 12 = .ok (.ifCond .ne 5, 3) := by decide +kernel
theorem dX11_end_15 : decode cX11_end 15 = .ok (.iconst (-1), 1) := by decide +kernel
theorem dX11_end_16 : decode cX11_end 16 = .ok (.ireturn, 1) := by decide +kernel
theorem dX11_end_17 : decode cX11_end 17 = .ok (.aload_n 0, 1) := by decide +kernel
theorem dX11_end_18 : decode cX11_end 18 = .ok (.getfield 10, 3) := by decide +kernel
theorem dX11_end_21 : decode cX11_end 21 = .ok (.iload_n 1, 1) := by decide +kernel
theorem dX11_end_22 : decode cX11_end 22 = .ok (.putfield 170, 3) := by decide +kernel
theorem dX11_end_25 : decode cX11_end 25 = .ok (.iload_n 1, 1) := by decide +kernel
theorem dX11_end_26 : decode cX11_end 26 = .ok (.ireturn, 1) := by decide +kernel
theorem fl_X11_170 : Cond.fieldLink RX11 170 "HookUps$Told" (TX8 12).2.1 (TX8 12).2.2.1 ∈ hk_tb := hk_tq1 152 (by decide +kernel) (by decide +kernel)
set_option maxRecDepth 100000 in
set_option maxHeartbeats 4000000 in
theorem k_X11_end (l : Launch) {D : va_G} {ar : Nat → ClassId} {B : Nat → Prop} {b n : Nat} {w0 : zcW} (A : Nat → Int) (τ : Nat → Nat → Int) (n9 : Int) (hA : ∀ i, inI (A i)) (hR : Rel9 ar b w0 A τ) (hc : cn A) (r_n9 : inI n9) : zt_M l D ar B b w0 n yX11_end cX11_end 2 (some .int) 1 22 [.ref b, .int (iz n9)] τ (some (.int (iz (if (0 ≤ n9 ∧ n9 ≤ A 10) then n9 else -1)))) (if (0 ≤ n9 ∧ n9 ≤ A 10) then sA τ 1 (ua (τ 1) 12 n9) else τ) := by
  refine zc_start (own := RX11) (by decide +kernel) rfl (Nat.le_of_ble_eq_true rfl) ?_
  intro p e s m args below meth c C K hr hlk hnam
  have zi := hR.i
  unfold rlI at zi
  refine hv_iload_n C 1 1 dX11_end_0 rfl rfl ?_
  refine hv_iconst C dX11_end_1 ?_
  refine hv_aload_n C 0 0 dX11_end_2 rfl rfl ?_
  refine zc_get C K (v := .ref (b + 1)) 0 rfl hu_12 (by decide) cw_0 rfl fl_X11_10 rfl dX11_end_3 ?_
  refine zc_get C K (v := .int (iz (τ 1 12))) 12 rfl hu_9 (by decide) (cw_at 1 rfl) rfl fl_X11_170 rfl dX11_end_6 ?_
  refine hv_nm (fun x1 ex1 => ?_)
  have rx1 : inI x1 := by rw [ex1]; exact (by have z := hA 10; omega)
  refine zt_callS [.int (iz n9), .int (iz 0), .int (iz x1)] [] C K (k_X11_within l  τ n9 0 x1 (by omega) (by omega) (by omega)) ck_X11_62 (by decide) ⟨Nat.zero_le _, Nat.zero_le _⟩ rfl (Nat.le_of_ble_eq_true rfl) dX11_end_9 ?_
  refine hv_as (xb (decide (0 ≤ n9 ∧ n9 ≤ x1))) rfl ?_
  refine hv_dif_ne C 17 dX11_end_12 (by decide)  (fun h12 => ?_) (fun h12 => ?_)
  · skip
    refine hv_aload_n C 0 0 dX11_end_17 rfl rfl ?_
    refine zc_get C K (v := .ref (b + 1)) 0 rfl hu_12 (by decide) cw_0 rfl fl_X11_10 rfl dX11_end_18 ?_
    refine hv_iload_n C 1 1 dX11_end_21 rfl rfl ?_
    refine zc_put C K 12 rfl hu_9 tyX8 tyX8_ok nmX8 (by decide) (cw_at 1 rfl) (cw_set 1 12 n9 rfl) fl_X11_170 rfl rfl (ty := .int) (by decide +kernel) rfl rfl (Nat.le_of_ble_eq_true rfl) dX11_end_22 ?_
    refine zt_st (τ2 := sA τ 1 (ua (τ 1) 12 n9)) (by rw [u2_sA]; first | done | rfl) ?_
    refine hv_iload_n C 1 1 dX11_end_25 rfl rfl ?_
    exact zt_iret C hr hlk (by (try simp only [Int.toNat_natCast] at *); first | exact if_p (by omega) rfl | exact if_n (by omega) rfl) (by (try simp only [Int.toNat_natCast] at *); first | exact if_p (by omega) rfl | exact if_n (by omega) rfl) dX11_end_26
  · skip
    refine hv_iconst C dX11_end_15 ?_
    exact zt_iret C hr hlk (by (try simp only [Int.toNat_natCast] at *); first | exact if_p (by omega) rfl | exact if_n (by omega) rfl) (by (try simp only [Int.toNat_natCast] at *); first | exact if_p (by omega) rfl | exact if_n (by omega) rfl) dX11_end_16
theorem dX11_own_0 : decode cX11_own 0 = .ok (.aload_n 0, 1) := by decide +kernel
theorem dX11_own_1 : decode cX11_own 1 = .ok (.iload_n 1, 1) := by decide +kernel
theorem dX11_own_2 : decode cX11_own 2 = .ok (.invokevirtual 112, 3) := by decide +kernel
theorem dX11_own_5 : decode cX11_own 5 = .ok (.ifCond .eq 14, 3) := by decide +kernel
theorem dX11_own_8 : decode cX11_own 8 = .ok (.iload_n 2, 1) := by decide +kernel
theorem dX11_own_9 : decode cX11_own 9 = .ok (.iconst 0, 1) := by decide +kernel
theorem dX11_own_10 : decode cX11_own 10 = .ok (.sipush 255, 3) := by decide +kernel
theorem dX11_own_13 : decode cX11_own 13 = .ok (.invokestatic 62, 3) := by decide +kernel
theorem dX11_own_16 : decode cX11_own 16 = .ok (.ifCond .ne 5, 3) := by decide +kernel
theorem dX11_own_19 : decode cX11_own 19 = .ok (.iconst 0, 1) := by decide +kernel
theorem dX11_own_20 : decode cX11_own 20 = .ok (.ireturn, 1) := by decide +kernel
theorem dX11_own_21 : decode cX11_own 21 = .ok (.aload_n 0, 1) := by decide +kernel
theorem dX11_own_22 : decode cX11_own 22 = .ok (.getfield 10, 3) := by decide +kernel
theorem dX11_own_25 : decode cX11_own 25 = .ok (.getfield 143, 3) := by decide +kernel
theorem dX11_own_28 : decode cX11_own 28 = .ok (.iload_n 1, 1) := by decide +kernel
theorem dX11_own_29 : decode cX11_own 29 = .ok (.iload_n 2, 1) := by decide +kernel
theorem dX11_own_30 : decode cX11_own 30 = .ok (.iastore, 1) := by decide +kernel
theorem dX11_own_31 : decode cX11_own 31 = .ok (.iconst 1, 1) := by decide +kernel
theorem dX11_own_32 : decode cX11_own 32 = .ok (.ireturn, 1) := by decide +kernel
theorem fl_X11_143 : Cond.fieldLink RX11 143 "HookUps$Told" (TX8 3).2.1 (TX8 3).2.2.1 ∈ hk_tb := hk_tq1 133 (by decide +kernel) (by decide +kernel)
set_option maxRecDepth 100000 in
set_option maxHeartbeats 4000000 in
theorem k_X11_own (l : Launch) {D : va_G} {ar : Nat → ClassId} {B : Nat → Prop} {b n : Nat} {w0 : zcW} (A : Nat → Int) (τ : Nat → Nat → Int) (st : Int) (bits : Int) (hA : ∀ i, inI (A i)) (hR : Rel9 ar b w0 A τ) (hc : cn A) (r_st : inI st) (r_bits : inI bits) : zt_M l D ar B b w0 n yX11_own cX11_own 3 (some .boolean) 2 43 [.ref b, .int (iz st), .int (iz bits)] τ (some (.int (iz (xb (decide (((0 ≤ st ∧ st ≤ A 2 - 1) ∧ (0 ≤ bits ∧ bits ≤ 255)))))))) (if ((0 ≤ st ∧ st ≤ A 2 - 1) ∧ (0 ≤ bits ∧ bits ≤ 255)) then sA τ 4 (ua (τ 4) st.toNat bits) else τ) := by
  refine zc_start (own := RX11) (by decide +kernel) rfl (Nat.le_of_ble_eq_true rfl) ?_
  intro p e s m args below meth c C K hr hlk hnam
  refine hv_aload_n C 0 0 dX11_own_0 rfl rfl ?_
  refine hv_iload_n C 1 1 dX11_own_1 rfl rfl ?_
  refine zt_callV [.int (iz st)] [] C K cw_0 rfl (k_X11_isStation l A τ st hA hR (by omega) hc) ck_X11_112 (by decide) ⟨Nat.zero_le _, Nat.zero_le _⟩ rfl (Nat.le_of_ble_eq_true rfl) dX11_own_2 ?_
  refine hv_as (xb (decide (0 ≤ st ∧ st ≤ A 2 - 1))) rfl ?_
  refine hv_dif_eq C 19 dX11_own_5 (by decide)  (fun h5 => ?_) (fun h5 => ?_)
  · skip
    refine hv_iconst C dX11_own_19 ?_
    exact zt_zret C hr hlk ((xb_f (decide_eq_false (by (try simp only [Int.toNat_natCast] at *); omega))).symm) (by (try simp only [Int.toNat_natCast] at *); first | exact if_p (by omega) rfl | exact if_n (by omega) rfl) dX11_own_20
  · skip
    refine hv_iload_n C 2 2 dX11_own_8 rfl rfl ?_
    refine hv_iconst C dX11_own_9 ?_
    refine hv_sipush C dX11_own_10 (by decide) ?_
    refine zt_callS [.int (iz bits), .int (iz 0), .int (iz 255)] [] C K (k_X11_within l  τ bits 0 255 (by omega) (by omega) (by omega)) ck_X11_62 (by decide) ⟨Nat.zero_le _, Nat.zero_le _⟩ rfl (Nat.le_of_ble_eq_true rfl) dX11_own_13 ?_
    refine hv_as (xb (decide (0 ≤ bits ∧ bits ≤ 255))) rfl ?_
    refine hv_dif_ne C 21 dX11_own_16 (by decide)  (fun h16 => ?_) (fun h16 => ?_)
    · skip
      obtain ⟨sn, rfl⟩ : ∃ n9 : Nat, st = (n9 : Int) := ⟨(st).toNat, by omega⟩
      refine hv_aload_n C 0 0 dX11_own_21 rfl rfl ?_
      refine zc_get C K (v := .ref (b + 1)) 0 rfl hu_12 (by decide) cw_0 rfl fl_X11_10 rfl dX11_own_22 ?_
      refine zc_get C K (v := .ref (b + 4)) 3 rfl hu_9 (by decide) (cw_at 1 rfl) rfl fl_X11_143 rfl dX11_own_25 ?_
      refine hv_iload_n C 1 1 dX11_own_28 rfl rfl ?_
      refine hv_iload_n C 2 2 dX11_own_29 rfl rfl ?_
      refine zc_iast C K (f := (τ 4)) sn (cw_at 4 rfl) (cw_set 4 sn bits rfl) (by omega) (by omega) (by decide) dX11_own_30 ?_
      refine zt_st (τ2 := sA τ 4 (ua (τ 4) sn bits)) (by rw [u2_sA]; first | done | rfl) ?_
      refine hv_iconst C dX11_own_31 ?_
      exact zt_zret C hr hlk ((xb_t (decide_eq_true (by (try simp only [Int.toNat_natCast] at *); omega))).symm) (by (try simp only [Int.toNat_natCast] at *); first | exact if_p (by omega) rfl | exact if_n (by omega) rfl) dX11_own_32
    · skip
      refine hv_iconst C dX11_own_19 ?_
      exact zt_zret C hr hlk ((xb_f (decide_eq_false (by (try simp only [Int.toNat_natCast] at *); omega))).symm) (by (try simp only [Int.toNat_natCast] at *); first | exact if_p (by omega) rfl | exact if_n (by omega) rfl) dX11_own_20
theorem dX11_worth_0 : decode cX11_worth 0 = .ok (.iload_n 1, 1) := by decide +kernel
theorem dX11_worth_1 : decode cX11_worth 1 = .ok (.iconst 0, 1) := by decide +kernel
theorem dX11_worth_2 : decode cX11_worth 2 = .ok (.aload_n 0, 1) := by decide +kernel
theorem dX11_worth_3 : decode cX11_worth 3 = .ok (.getfield 10, 3) := by decide +kernel
theorem dX11_worth_6 : decode cX11_worth 6 = .ok (.getfield 275, 3) := by decide +kernel
theorem dX11_worth_9 : decode cX11_worth 9 = .ok (.getfield 279, 3) := by decide +kernel
theorem dX11_worth_12 : decode cX11_worth 12 = .ok (.iconst 1, 1) := by decide +kernel
theorem dX11_worth_13 : decode cX11_worth 13 = .ok (.isub, 1) := by decide +kernel
theorem dX11_worth_14 : decode cX11_worth 14 = .ok (.invokestatic 62, 3) := by decide +kernel
theorem dX11_worth_17 : decode cX11_worth 17 = .ok (.ifCond .eq 23, 3) := by decide +kernel
theorem dX11_worth_20 : decode cX11_worth 20 = .ok (.iload_n 2, 1) := by decide +kernel
theorem dX11_worth_21 : decode cX11_worth 21 = .ok (.iconst 0, 1) := by decide +kernel
theorem dX11_worth_22 : decode cX11_worth 22 = .ok (.iconst 5, 1) := by decide +kernel
theorem dX11_worth_23 : decode cX11_worth 23 = .ok (.invokestatic 62, 3) := by decide +kernel
theorem dX11_worth_26 : decode cX11_worth 26 = .ok (.ifCond .eq 14, 3) := by decide +kernel
theorem dX11_worth_29 : decode cX11_worth 29 = .ok (.iload_n 3, 1) := by decide +kernel
theorem dX11_worth_30 : decode cX11_worth 30 = .ok (.iconst 0, 1) := by decide +kernel
theorem dX11_worth_31 : decode cX11_worth 31 = .ok (.sipush 9999, 3) := by decide +kernel
theorem dX11_worth_34 : decode cX11_worth 34 = .ok (.invokestatic 62, 3) := by decide +kernel
theorem dX11_worth_37 : decode cX11_worth 37 = .ok (.ifCond .ne 5, 3) := by decide +kernel
theorem dX11_worth_40 : decode cX11_worth 40 = .ok (.iconst 0, 1) := by decide +kernel
theorem dX11_worth_41 : decode cX11_worth 41 = .ok (.ireturn, 1) := by decide +kernel
theorem dX11_worth_42 : decode cX11_worth 42 = .ok (.aload_n 0, 1) := by decide +kernel
theorem dX11_worth_43 : decode cX11_worth 43 = .ok (.getfield 10, 3) := by decide +kernel
theorem dX11_worth_46 : decode cX11_worth 46 = .ok (.getfield 275, 3) := by decide +kernel
theorem dX11_worth_49 : decode cX11_worth 49 = .ok (.getfield 287, 3) := by decide +kernel
theorem dX11_worth_52 : decode cX11_worth 52 = .ok (.bipush 6, 2) := by decide +kernel
theorem dX11_worth_54 : decode cX11_worth 54 = .ok (.iload_n 1, 1) := by decide +kernel
theorem dX11_worth_55 : decode cX11_worth 55 = .ok (.imul, 1) := by decide +kernel
theorem dX11_worth_56 : decode cX11_worth 56 = .ok (.iload_n 2, 1) := by decide +kernel
theorem dX11_worth_57 : decode cX11_worth 57 = .ok (.iadd, 1) := by decide +kernel
theorem dX11_worth_58 : decode cX11_worth 58 = .ok (.iload_n 3, 1) := by decide +kernel
theorem dX11_worth_59 : decode cX11_worth 59 = .ok (.iastore, 1) := by decide +kernel
theorem dX11_worth_60 : decode cX11_worth 60 = .ok (.iconst 1, 1) := by decide +kernel
theorem dX11_worth_61 : decode cX11_worth 61 = .ok (.ireturn, 1) := by decide +kernel
theorem fl_X11_287 : Cond.fieldLink RX11 287 "HookUps$Evening" (TX2 2).2.1 (TX2 2).2.2.1 ∈ hk_tb := hk_tq1 79 (by decide +kernel) (by decide +kernel)
set_option maxRecDepth 100000 in
set_option maxHeartbeats 4000000 in
theorem k_X11_worth (l : Launch) {D : va_G} {ar : Nat → ClassId} {B : Nat → Prop} {b n : Nat} {w0 : zcW} (A : Nat → Int) (τ : Nat → Nat → Int) (piece : Int) (turn : Int) (worth : Int) (hA : ∀ i, inI (A i)) (hR : Rel9 ar b w0 A τ) (hc : cn A) (r_piece : inI piece) (r_turn : inI turn) (r_worth : inI worth) : zt_M l D ar B b w0 n yX11_worth cX11_worth 4 (some .boolean) 1 22 [.ref b, .int (iz piece), .int (iz turn), .int (iz worth)] τ (some (.int (iz (xb (decide (((0 ≤ piece ∧ piece ≤ A 7 - 1) ∧ (0 ≤ turn ∧ turn ≤ 5) ∧ (0 ≤ worth ∧ worth ≤ 9999)))))))) (if ((0 ≤ piece ∧ piece ≤ A 7 - 1) ∧ (0 ≤ turn ∧ turn ≤ 5) ∧ (0 ≤ worth ∧ worth ≤ 9999)) then sA τ 14 (ua (τ 14) (6 * piece.toNat + turn.toNat) worth) else τ) := by
  refine zc_start (own := RX11) (by decide +kernel) rfl (Nat.le_of_ble_eq_true rfl) ?_
  intro p e s m args below meth c C K hr hlk hnam
  have zi := hR.i
  unfold rlI at zi
  refine hv_iload_n C 1 1 dX11_worth_0 rfl rfl ?_
  refine hv_iconst C dX11_worth_1 ?_
  refine hv_aload_n C 0 0 dX11_worth_2 rfl rfl ?_
  refine zc_get C K (v := .ref (b + 1)) 0 rfl hu_12 (by decide) cw_0 rfl fl_X11_10 rfl dX11_worth_3 ?_
  refine zc_get C K (v := .ref (b + 12)) 18 rfl hu_9 (by decide) (cw_at 1 rfl) rfl fl_X11_275 rfl dX11_worth_6 ?_
  refine zc_get C K (v := .int (iz (τ 12 0))) 0 rfl hu_3 (by decide) (cw_at 12 rfl) rfl fl_X11_279 rfl dX11_worth_9 ?_
  refine hv_nm (fun x1 ex1 => ?_)
  have rx1 : inI x1 := by rw [ex1]; exact (by have z := hA 7; omega)
  refine hv_iconst C dX11_worth_12 ?_
  refine hv_isub C dX11_worth_13 ?_
  refine zt_callS [.int (iz piece), .int (iz 0), .int (iz (x1 - 1))] [] C K (k_X11_within l  τ piece 0 (x1 - 1) (by omega) (by omega) (by omega)) ck_X11_62 (by decide) ⟨Nat.zero_le _, Nat.zero_le _⟩ rfl (Nat.le_of_ble_eq_true rfl) dX11_worth_14 ?_
  refine hv_as (xb (decide (0 ≤ piece ∧ piece ≤ (x1 - 1)))) rfl ?_
  refine hv_dif_eq C 40 dX11_worth_17 (by decide)  (fun h17 => ?_) (fun h17 => ?_)
  · skip
    refine hv_iconst C dX11_worth_40 ?_
    exact zt_zret C hr hlk ((xb_f (decide_eq_false (by (try simp only [Int.toNat_natCast] at *); omega))).symm) (by (try simp only [Int.toNat_natCast] at *); first | exact if_p (by omega) rfl | exact if_n (by omega) rfl) dX11_worth_41
  · skip
    refine hv_iload_n C 2 2 dX11_worth_20 rfl rfl ?_
    refine hv_iconst C dX11_worth_21 ?_
    refine hv_iconst C dX11_worth_22 ?_
    refine zt_callS [.int (iz turn), .int (iz 0), .int (iz 5)] [] C K (k_X11_within l  τ turn 0 5 (by omega) (by omega) (by omega)) ck_X11_62 (by decide) ⟨Nat.zero_le _, Nat.zero_le _⟩ rfl (Nat.le_of_ble_eq_true rfl) dX11_worth_23 ?_
    refine hv_as (xb (decide (0 ≤ turn ∧ turn ≤ 5))) rfl ?_
    refine hv_dif_eq C 40 dX11_worth_26 (by decide)  (fun h26 => ?_) (fun h26 => ?_)
    · skip
      refine hv_iconst C dX11_worth_40 ?_
      exact zt_zret C hr hlk ((xb_f (decide_eq_false (by (try simp only [Int.toNat_natCast] at *); omega))).symm) (by (try simp only [Int.toNat_natCast] at *); first | exact if_p (by omega) rfl | exact if_n (by omega) rfl) dX11_worth_41
    · skip
      refine hv_iload_n C 3 3 dX11_worth_29 rfl rfl ?_
      refine hv_iconst C dX11_worth_30 ?_
      refine hv_sipush C dX11_worth_31 (by decide) ?_
      refine zt_callS [.int (iz worth), .int (iz 0), .int (iz 9999)] [] C K (k_X11_within l  τ worth 0 9999 (by omega) (by omega) (by omega)) ck_X11_62 (by decide) ⟨Nat.zero_le _, Nat.zero_le _⟩ rfl (Nat.le_of_ble_eq_true rfl) dX11_worth_34 ?_
      refine hv_as (xb (decide (0 ≤ worth ∧ worth ≤ 9999))) rfl ?_
      refine hv_dif_ne C 42 dX11_worth_37 (by decide)  (fun h37 => ?_) (fun h37 => ?_)
      · skip
        obtain ⟨pn, rfl⟩ : ∃ n9 : Nat, piece = (n9 : Int) := ⟨(piece).toNat, by omega⟩
        obtain ⟨tn, rfl⟩ : ∃ n9 : Nat, turn = (n9 : Int) := ⟨(turn).toNat, by omega⟩
        refine hv_aload_n C 0 0 dX11_worth_42 rfl rfl ?_
        refine zc_get C K (v := .ref (b + 1)) 0 rfl hu_12 (by decide) cw_0 rfl fl_X11_10 rfl dX11_worth_43 ?_
        refine zc_get C K (v := .ref (b + 12)) 18 rfl hu_9 (by decide) (cw_at 1 rfl) rfl fl_X11_275 rfl dX11_worth_46 ?_
        refine zc_get C K (v := .ref (b + 14)) 2 rfl hu_3 (by decide) (cw_at 12 rfl) rfl fl_X11_287 rfl dX11_worth_49 ?_
        refine hv_bipush C dX11_worth_52 (by decide) ?_
        refine hv_iload_n C 1 1 dX11_worth_54 rfl rfl ?_
        refine hv_imul C dX11_worth_55 ?_
        refine hv_iload_n C 2 2 dX11_worth_56 rfl rfl ?_
        refine hv_iadd C dX11_worth_57 ?_
        refine hv_iload_n C 3 3 dX11_worth_58 rfl rfl ?_
        refine zc_iast C K (f := (τ 14)) ((6 * pn) + tn) (cw_at 14 rfl) (cw_set 14 ((6 * pn) + tn) worth rfl) (by omega) (by omega) (by decide) dX11_worth_59 ?_
        refine zt_st (τ2 := sA τ 14 (ua (τ 14) ((6 * pn) + tn) worth)) (by rw [u2_sA]; first | done | rfl) ?_
        refine hv_iconst C dX11_worth_60 ?_
        exact zt_zret C hr hlk ((xb_t (decide_eq_true (by (try simp only [Int.toNat_natCast] at *); omega))).symm) (by (try simp only [Int.toNat_natCast] at *); first | exact if_p (by omega) rfl | exact if_n (by omega) rfl) dX11_worth_61
      · skip
        refine hv_iconst C dX11_worth_40 ?_
        exact zt_zret C hr hlk ((xb_f (decide_eq_false (by (try simp only [Int.toNat_natCast] at *); omega))).symm) (by (try simp only [Int.toNat_natCast] at *); first | exact if_p (by omega) rfl | exact if_n (by omega) rfl) dX11_worth_41
theorem dX11_calls_0 : decode cX11_calls 0 = .ok (.aload_n 0, 1) := by decide +kernel
theorem dX11_calls_1 : decode cX11_calls 1 = .ok (.getfield 10, 3) := by decide +kernel
theorem dX11_calls_4 : decode cX11_calls 4 = .ok (.getfield 261, 3) := by decide +kernel
theorem dX11_calls_7 : decode cX11_calls 7 = .ok (.bipush 40, 2) := by decide +kernel
theorem dX11_calls_9 : decode cX11_calls 9 = .ok (.if_icmp .ge 31, 3) := by decide +kernel
theorem dX11_calls_12 : decode cX11_calls 12 = .ok (.aload_n 0, 1) := by decide +kernel
theorem dX11_calls_13 : decode cX11_calls 13 = .ok (.iload_n 1, 1) := by decide +kernel
theorem dX11_calls_14 : decode cX11_calls 14 = .ok (.invokevirtual 112, 3) := by decide +kernel
theorem dX11_calls_17 : decode cX11_calls 17 = .ok (.ifCond .eq 23, 3) := by decide +kernel
theorem dX11_calls_20 : decode cX11_calls 20 = .ok (.iload_n 2, 1) := by decide +kernel
theorem dX11_calls_21 : decode cX11_calls 21 = .ok (.iconst 1, 1) := by decide +kernel
theorem dX11_calls_22 : decode cX11_calls 22 = .ok (.sipush 999, 3) := by decide +kernel
theorem dX11_calls_25 : decode cX11_calls 25 = .ok (.invokestatic 62, 3) := by decide +kernel
theorem dX11_calls_28 : decode cX11_calls 28 = .ok (.ifCond .eq 12, 3) := by decide +kernel
theorem dX11_calls_31 : decode cX11_calls 31 = .ok (.iload_n 3, 1) := by decide +kernel
theorem dX11_calls_32 : decode cX11_calls 32 = .ok (.iconst 0, 1) := by decide +kernel
theorem dX11_calls_33 : decode cX11_calls 33 = .ok (.iload_n 2, 1) := by decide +kernel
theorem dX11_calls_34 : decode cX11_calls 34 = .ok (.invokestatic 62, 3) := by decide +kernel
theorem dX11_calls_37 : decode cX11_calls 37 = .ok (.ifCond .ne 5, 3) := by decide +kernel
theorem dX11_calls_40 : decode cX11_calls 40 = .ok (.iconst (-1), 1) := by decide +kernel
theorem dX11_calls_41 : decode cX11_calls 41 = .ok (.ireturn, 1) := by decide +kernel
theorem dX11_calls_42 : decode cX11_calls 42 = .ok (.iconst 3, 1) := by decide +kernel
theorem dX11_calls_43 : decode cX11_calls 43 = .ok (.aload_n 0, 1) := by decide +kernel
theorem dX11_calls_44 : decode cX11_calls 44 = .ok (.getfield 10, 3) := by decide +kernel
theorem dX11_calls_47 : decode cX11_calls 47 = .ok (.getfield 261, 3) := by decide +kernel
theorem dX11_calls_50 : decode cX11_calls 50 = .ok (.imul, 1) := by decide +kernel
theorem dX11_calls_51 : decode cX11_calls 51 = .ok (.istore 4, 2) := by decide +kernel
theorem dX11_calls_53 : decode cX11_calls 53 = .ok (.aload_n 0, 1) := by decide +kernel
theorem dX11_calls_54 : decode cX11_calls 54 = .ok (.getfield 10, 3) := by decide +kernel
theorem dX11_calls_57 : decode cX11_calls 57 = .ok (.getfield 264, 3) := by decide +kernel
theorem dX11_calls_60 : decode cX11_calls 60 = .ok (.iload 4, 2) := by decide +kernel
theorem dX11_calls_62 : decode cX11_calls 62 = .ok (.iload_n 1, 1) := by decide +kernel
theorem dX11_calls_63 : decode cX11_calls 63 = .ok (.iastore, 1) := by decide +kernel
theorem dX11_calls_64 : decode cX11_calls 64 = .ok (.aload_n 0, 1) := by decide +kernel
theorem dX11_calls_65 : decode cX11_calls 65 = .ok (.getfield 10, 3) := by decide +kernel
theorem dX11_calls_68 : decode cX11_calls 68 = .ok (.getfield 264, 3) := by decide +kernel
theorem dX11_calls_71 : decode cX11_calls 71 = .ok (.iload 4, 2) := by decide +kernel
theorem dX11_calls_73 : decode cX11_calls 73 = .ok (.iconst 1, 1) := by decide +kernel
theorem dX11_calls_74 : decode cX11_calls 74 = .ok (.iadd, 1) := by decide +kernel
theorem dX11_calls_75 : decode cX11_calls 75 = .ok (.iload_n 2, 1) := by decide +kernel
theorem dX11_calls_76 : decode cX11_calls 76 = .ok (.iastore, 1) := by decide +kernel
theorem dX11_calls_77 : decode cX11_calls 77 = .ok (.aload_n 0, 1) := by decide +kernel
theorem dX11_calls_78 : decode cX11_calls 78 = .ok (.getfield 10, 3) := by decide +kernel
theorem dX11_calls_81 : decode cX11_calls 81 = .ok (.getfield 264, 3) := by decide +kernel
theorem dX11_calls_84 : decode cX11_calls 84 = .ok (.iload 4, 2) := by decide +kernel
theorem dX11_calls_86 : decode cX11_calls 86 = .ok (.iconst 2, 1) := by decide +kernel
theorem dX11_calls_87 : decode cX11_calls 87 = .ok (.iadd, 1) := by decide +kernel
theorem dX11_calls_88 : decode cX11_calls 88 = .ok (.iload_n 3, 1) := by decide +kernel
theorem dX11_calls_89 : decode cX11_calls 89 = .ok (.iastore, 1) := by decide +kernel
theorem dX11_calls_90 : decode cX11_calls 90 = .ok (.aload_n 0, 1) := by decide +kernel
theorem dX11_calls_91 : decode cX11_calls 91 = .ok (.getfield 10, 3) := by decide +kernel
theorem dX11_calls_94 : decode cX11_calls 94 = .ok (.dup, 1) := by decide +kernel
theorem dX11_calls_95 : decode cX11_calls 95 = .ok (.getfield 261, 3) := by decide +kernel
theorem dX11_calls_98 : decode cX11_calls 98 = .ok (.iconst 1, 1) := by decide +kernel
theorem dX11_calls_99 : decode cX11_calls 99 = .ok (.iadd, 1) := by decide +kernel
theorem dX11_calls_100 : decode cX11_calls 100 = .ok (.putfield 261, 3) := by decide +kernel
theorem dX11_calls_103 : decode cX11_calls 103 = .ok (.aload_n 0, 1) := by decide +kernel
theorem dX11_calls_104 : decode cX11_calls 104 = .ok (.getfield 10, 3) := by decide +kernel
theorem dX11_calls_107 : decode cX11_calls 107 = .ok (.getfield 261, 3) := by decide +kernel
theorem dX11_calls_110 : decode cX11_calls 110 = .ok (.iconst 1, 1) := by decide +kernel
theorem dX11_calls_111 : decode cX11_calls 111 = .ok (.isub, 1) := by decide +kernel
theorem dX11_calls_112 : decode cX11_calls 112 = .ok (.ireturn, 1) := by decide +kernel
set_option maxRecDepth 100000 in
set_option maxHeartbeats 4000000 in
theorem k_X11_calls (l : Launch) {D : va_G} {ar : Nat → ClassId} {B : Nat → Prop} {b n : Nat} {w0 : zcW} (A : Nat → Int) (τ : Nat → Nat → Int) (st : Int) (called : Int) (heard : Int) (hA : ∀ i, inI (A i)) (hR : Rel9 ar b w0 A τ) (hc : cn A) (r_st : inI st) (r_called : inI called) (r_heard : inI heard) : zt_M l D ar B b w0 n yX11_calls cX11_calls 5 (some .int) 2 43 [.ref b, .int (iz st), .int (iz called), .int (iz heard)] τ (some (.int (iz (if ok_calls A st called heard then A 6 else -1)))) (if ok_calls A st called heard then sA (sA τ 1 (ua (τ 1) 16 (A 6 + 1))) 11 (ua (ua (ua (τ 11) (3 * (A 6).toNat) st) (3 * (A 6).toNat + 1) called) (3 * (A 6).toNat + 2) heard) else τ) := by
  refine zc_start (own := RX11) (by decide +kernel) rfl (Nat.le_of_ble_eq_true rfl) ?_
  intro p e s m args below meth c C K hr hlk hnam
  have zi := hR.i
  unfold rlI at zi
  refine hv_aload_n C 0 0 dX11_calls_0 rfl rfl ?_
  refine zc_get C K (v := .ref (b + 1)) 0 rfl hu_12 (by decide) cw_0 rfl fl_X11_10 rfl dX11_calls_1 ?_
  refine zc_get C K (v := .int (iz (τ 1 16))) 16 rfl hu_9 (by decide) (cw_at 1 rfl) rfl fl_X11_261 rfl dX11_calls_4 ?_
  refine hv_nm (fun x1 ex1 => ?_)
  have rx1 : inI x1 := by rw [ex1]; exact (by have z := hA 6; omega)
  refine hv_bipush C dX11_calls_7 (by decide) ?_
  refine hv_icmp_ge C 40 dX11_calls_9 (by decide) (by omega) (by omega) (fun h9 => ?_) (fun h9 => ?_)
  · skip
    refine hv_iconst C dX11_calls_40 ?_
    exact zt_iret C hr hlk (by first | exact if_n (by omega) rfl | (refine if_p (by omega) ?_; omega)) (by first | exact if_n (by omega) rfl | (refine if_p (by omega) ?_; rw [show (A 6).toNat = kn by omega]; exact congrArg (fun z9 => sA (sA τ 1 (ua (τ 1) 16 z9)) 11 (ua (ua (ua (τ 11) (3 * kn) st) (3 * kn + 1) called) (3 * kn + 2) heard)) (by omega))) dX11_calls_41
  · skip
    refine hv_aload_n C 0 0 dX11_calls_12 rfl rfl ?_
    refine hv_iload_n C 1 1 dX11_calls_13 rfl rfl ?_
    refine zt_callV [.int (iz st)] [] C K cw_0 rfl (k_X11_isStation l A τ st hA hR (by omega) hc) ck_X11_112 (by decide) ⟨Nat.zero_le _, Nat.zero_le _⟩ rfl (Nat.le_of_ble_eq_true rfl) dX11_calls_14 ?_
    refine hv_as (xb (decide (0 ≤ st ∧ st ≤ A 2 - 1))) rfl ?_
    refine hv_dif_eq C 40 dX11_calls_17 (by decide)  (fun h17 => ?_) (fun h17 => ?_)
    · skip
      refine hv_iconst C dX11_calls_40 ?_
      exact zt_iret C hr hlk (by first | exact if_n (by omega) rfl | (refine if_p (by omega) ?_; omega)) (by first | exact if_n (by omega) rfl | (refine if_p (by omega) ?_; rw [show (A 6).toNat = kn by omega]; exact congrArg (fun z9 => sA (sA τ 1 (ua (τ 1) 16 z9)) 11 (ua (ua (ua (τ 11) (3 * kn) st) (3 * kn + 1) called) (3 * kn + 2) heard)) (by omega))) dX11_calls_41
    · skip
      refine hv_iload_n C 2 2 dX11_calls_20 rfl rfl ?_
      refine hv_iconst C dX11_calls_21 ?_
      refine hv_sipush C dX11_calls_22 (by decide) ?_
      refine zt_callS [.int (iz called), .int (iz 1), .int (iz 999)] [] C K (k_X11_within l  τ called 1 999 (by omega) (by omega) (by omega)) ck_X11_62 (by decide) ⟨Nat.zero_le _, Nat.zero_le _⟩ rfl (Nat.le_of_ble_eq_true rfl) dX11_calls_25 ?_
      refine hv_as (xb (decide (1 ≤ called ∧ called ≤ 999))) rfl ?_
      refine hv_dif_eq C 40 dX11_calls_28 (by decide)  (fun h28 => ?_) (fun h28 => ?_)
      · skip
        refine hv_iconst C dX11_calls_40 ?_
        exact zt_iret C hr hlk (by first | exact if_n (by omega) rfl | (refine if_p (by omega) ?_; omega)) (by first | exact if_n (by omega) rfl | (refine if_p (by omega) ?_; rw [show (A 6).toNat = kn by omega]; exact congrArg (fun z9 => sA (sA τ 1 (ua (τ 1) 16 z9)) 11 (ua (ua (ua (τ 11) (3 * kn) st) (3 * kn + 1) called) (3 * kn + 2) heard)) (by omega))) dX11_calls_41
      · skip
        refine hv_iload_n C 3 3 dX11_calls_31 rfl rfl ?_
        refine hv_iconst C dX11_calls_32 ?_
        refine hv_iload_n C 2 2 dX11_calls_33 rfl rfl ?_
        refine zt_callS [.int (iz heard), .int (iz 0), .int (iz called)] [] C K (k_X11_within l  τ heard 0 called (by omega) (by omega) (by omega)) ck_X11_62 (by decide) ⟨Nat.zero_le _, Nat.zero_le _⟩ rfl (Nat.le_of_ble_eq_true rfl) dX11_calls_34 ?_
        refine hv_as (xb (decide (0 ≤ heard ∧ heard ≤ called))) rfl ?_
        refine hv_dif_ne C 42 dX11_calls_37 (by decide)  (fun h37 => ?_) (fun h37 => ?_)
        · skip
          refine hv_iconst C dX11_calls_42 ?_
          refine hv_aload_n C 0 0 dX11_calls_43 rfl rfl ?_
          refine zc_get C K (v := .ref (b + 1)) 0 rfl hu_12 (by decide) cw_0 rfl fl_X11_10 rfl dX11_calls_44 ?_
          refine zc_get C K (v := .int (iz (τ 1 16))) 16 rfl hu_9 (by decide) (cw_at 1 rfl) rfl fl_X11_261 rfl dX11_calls_47 ?_
          refine hv_nm (fun x2 ex2 => ?_)
          have rx2 : inI x2 := by rw [ex2]; exact (by have z := hA 6; omega)
          obtain ⟨kn, rfl⟩ : ∃ n9 : Nat, x2 = (n9 : Int) := ⟨(x2).toNat, by omega⟩
          refine hv_imul C dX11_calls_50 ?_
          refine hv_istore C 4 [(4, .int (iz (3 * ((kn : Nat) : Int)))), (0, .ref b), (1, .int (iz st)), (2, .int (iz called)), (3, .int (iz heard))] dX11_calls_51 (by decide) rfl ?_
          refine hv_aload_n C 0 1 dX11_calls_53 rfl rfl ?_
          refine zc_get C K (v := .ref (b + 1)) 0 rfl hu_12 (by decide) cw_0 rfl fl_X11_10 rfl dX11_calls_54 ?_
          refine zc_get C K (v := .ref (b + 11)) 17 rfl hu_9 (by decide) (cw_at 1 rfl) rfl fl_X11_264 rfl dX11_calls_57 ?_
          refine hv_iload C 4 0 dX11_calls_60 rfl ?_
          refine hv_iload_n C 1 2 dX11_calls_62 rfl rfl ?_
          refine zc_iast C K (f := (τ 11)) (3 * kn) (cw_at 11 rfl) (cw_set 11 (3 * kn) st rfl) (by omega) (by omega) (by decide) dX11_calls_63 ?_
          refine zt_st (τ2 := sA τ 11 (ua (τ 11) (3 * kn) st)) (by rw [u2_sA]; first | done | rfl) ?_
          refine hv_aload_n C 0 1 dX11_calls_64 rfl rfl ?_
          refine zc_get C K (v := .ref (b + 1)) 0 rfl hu_12 (by decide) cw_0 rfl fl_X11_10 rfl dX11_calls_65 ?_
          refine zc_get C K (v := .ref (b + 11)) 17 rfl hu_9 (by decide) (cw_at 1 rfl) rfl fl_X11_264 rfl dX11_calls_68 ?_
          refine hv_iload C 4 0 dX11_calls_71 rfl ?_
          refine hv_iconst C dX11_calls_73 ?_
          refine hv_iadd C dX11_calls_74 ?_
          refine hv_iload_n C 2 3 dX11_calls_75 rfl rfl ?_
          refine zc_iast C K (f := (ua (τ 11) (3 * kn) st)) ((3 * kn) + 1) (cw_at 11 rfl) (cw_set 11 ((3 * kn) + 1) called rfl) (by omega) (by omega) (by decide) dX11_calls_76 ?_
          refine zt_st (τ2 := sA τ 11 (ua (ua (τ 11) (3 * kn) st) ((3 * kn) + 1) called)) (by rw [u2_sA, sA_sA]; first | done | rfl) ?_
          refine hv_aload_n C 0 1 dX11_calls_77 rfl rfl ?_
          refine zc_get C K (v := .ref (b + 1)) 0 rfl hu_12 (by decide) cw_0 rfl fl_X11_10 rfl dX11_calls_78 ?_
          refine zc_get C K (v := .ref (b + 11)) 17 rfl hu_9 (by decide) (cw_at 1 rfl) rfl fl_X11_264 rfl dX11_calls_81 ?_
          refine hv_iload C 4 0 dX11_calls_84 rfl ?_
          refine hv_iconst C dX11_calls_86 ?_
          refine hv_iadd C dX11_calls_87 ?_
          refine hv_iload_n C 3 4 dX11_calls_88 rfl rfl ?_
          refine zc_iast C K (f := (ua (ua (τ 11) (3 * kn) st) ((3 * kn) + 1) called)) ((3 * kn) + 2) (cw_at 11 rfl) (cw_set 11 ((3 * kn) + 2) heard rfl) (by omega) (by omega) (by decide) dX11_calls_89 ?_
          refine zt_st (τ2 := sA τ 11 (ua (ua (ua (τ 11) (3 * kn) st) ((3 * kn) + 1) called) ((3 * kn) + 2) heard)) (by rw [u2_sA, sA_sA]; first | done | rfl) ?_
          refine hv_aload_n C 0 1 dX11_calls_90 rfl rfl ?_
          refine zc_get C K (v := .ref (b + 1)) 0 rfl hu_12 (by decide) cw_0 rfl fl_X11_10 rfl dX11_calls_91 ?_
          refine hv_dup C dX11_calls_94 rfl ?_
          refine zc_get C K (v := .int (iz (τ 1 16))) 16 rfl hu_9 (by decide) (cw_at 1 rfl) rfl fl_X11_261 rfl dX11_calls_95 ?_
          refine hv_nm (fun x3 ex3 => ?_)
          have rx3 : inI x3 := by rw [ex3]; exact (by have z := hA 6; omega)
          refine hv_iconst C dX11_calls_98 ?_
          refine hv_iadd C dX11_calls_99 ?_
          refine zc_put C K 16 rfl hu_9 tyX8 tyX8_ok nmX8 (by decide) (cw_at 1 rfl) (cw_set 1 16 (x3 + 1) rfl) fl_X11_261 rfl rfl (ty := .int) (by decide +kernel) rfl rfl (Nat.le_of_ble_eq_true rfl) dX11_calls_100 ?_
          refine zt_st (τ2 := sA (sA τ 1 (ua (τ 1) 16 (x3 + 1))) 11 (ua (ua (ua (τ 11) (3 * kn) st) ((3 * kn) + 1) called) ((3 * kn) + 2) heard)) (by rw [u2_sA, sA_comm (j := 11) (k := 1) (by decide)]; first | done | rfl) ?_
          refine hv_aload_n C 0 1 dX11_calls_103 rfl rfl ?_
          refine zc_get C K (v := .ref (b + 1)) 0 rfl hu_12 (by decide) cw_0 rfl fl_X11_10 rfl dX11_calls_104 ?_
          refine zc_get C K (v := .int (iz (x3 + 1))) 16 rfl hu_9 (by decide) (cw_at 1 rfl) rfl fl_X11_261 rfl dX11_calls_107 ?_
          refine hv_iconst C dX11_calls_110 ?_
          refine hv_isub C dX11_calls_111 ?_
          exact zt_iret C hr hlk (by first | exact if_n (by omega) rfl | (refine if_p (by omega) ?_; omega)) (by first | exact if_n (by omega) rfl | (refine if_p (by omega) ?_; rw [show (A 6).toNat = kn by omega]; exact congrArg (fun z9 => sA (sA τ 1 (ua (τ 1) 16 z9)) 11 (ua (ua (ua (τ 11) (3 * kn) st) (3 * kn + 1) called) (3 * kn + 2) heard)) (by omega))) dX11_calls_112
        · skip
          refine hv_iconst C dX11_calls_40 ?_
          exact zt_iret C hr hlk (by first | exact if_n (by omega) rfl | (refine if_p (by omega) ?_; omega)) (by first | exact if_n (by omega) rfl | (refine if_p (by omega) ?_; rw [show (A 6).toNat = kn by omega]; exact congrArg (fun z9 => sA (sA τ 1 (ua (τ 1) 16 z9)) 11 (ua (ua (ua (τ 11) (3 * kn) st) (3 * kn + 1) called) (3 * kn + 2) heard)) (by omega))) dX11_calls_41
theorem dX2_addPiece_0 : decode cX2_addPiece 0 = .ok (.aload_n 0, 1) := by decide +kernel
theorem dX2_addPiece_1 : decode cX2_addPiece 1 = .ok (.getfield 27, 3) := by decide +kernel
theorem dX2_addPiece_4 : decode cX2_addPiece 4 = .ok (.bipush 6, 2) := by decide +kernel
theorem dX2_addPiece_6 : decode cX2_addPiece 6 = .ok (.if_icmp .lt 5, 3) := by decide +kernel
theorem dX2_addPiece_9 : decode cX2_addPiece 9 = .ok (.iconst (-1), 1) := by decide +kernel
theorem dX2_addPiece_10 : decode cX2_addPiece 10 = .ok (.ireturn, 1) := by decide +kernel
theorem dX2_addPiece_11 : decode cX2_addPiece 11 = .ok (.aload_n 0, 1) := by decide +kernel
theorem dX2_addPiece_12 : decode cX2_addPiece 12 = .ok (.getfield 9, 3) := by decide +kernel
theorem dX2_addPiece_15 : decode cX2_addPiece 15 = .ok (.aload_n 0, 1) := by decide +kernel
theorem dX2_addPiece_16 : decode cX2_addPiece 16 = .ok (.getfield 27, 3) := by decide +kernel
theorem dX2_addPiece_19 : decode cX2_addPiece 19 = .ok (.iload_n 1, 1) := by decide +kernel
theorem dX2_addPiece_20 : decode cX2_addPiece 20 = .ok (.iastore, 1) := by decide +kernel
theorem dX2_addPiece_21 : decode cX2_addPiece 21 = .ok (.aload_n 0, 1) := by decide +kernel
theorem dX2_addPiece_22 : decode cX2_addPiece 22 = .ok (.dup, 1) := by decide +kernel
theorem dX2_addPiece_23 : decode cX2_addPiece 23 = .ok (.getfield 27, 3) := by decide +kernel
theorem dX2_addPiece_26 : decode cX2_addPiece 26 = .ok (.iconst 1, 1) := by decide +kernel
theorem dX2_addPiece_27 : decode cX2_addPiece 27 = .ok (.iadd, 1) := by decide +kernel
theorem dX2_addPiece_28 : decode cX2_addPiece 28 = .ok (.putfield 27, 3) := by decide +kernel
theorem dX2_addPiece_31 : decode cX2_addPiece 31 = .ok (.aload_n 0, 1) := by decide +kernel
theorem dX2_addPiece_32 : decode cX2_addPiece 32 = .ok (.getfield 27, 3) := by decide +kernel
theorem dX2_addPiece_35 : decode cX2_addPiece 35 = .ok (.iconst 1, 1) := by decide +kernel
theorem dX2_addPiece_36 : decode cX2_addPiece 36 = .ok (.isub, 1) := by decide +kernel
theorem dX2_addPiece_37 : decode cX2_addPiece 37 = .ok (.ireturn, 1) := by decide +kernel
theorem fl_X2_27 : Cond.fieldLink RX2 27 "HookUps$Evening" (TX2 0).2.1 (TX2 0).2.2.1 ∈ hk_tb := hk_tq1 75 (by decide +kernel) (by decide +kernel)
theorem fl_X2_9 : Cond.fieldLink RX2 9 "HookUps$Evening" (TX2 1).2.1 (TX2 1).2.2.1 ∈ hk_tb := hk_tq1 77 (by decide +kernel) (by decide +kernel)
set_option maxRecDepth 100000 in
set_option maxHeartbeats 4000000 in
theorem k_X2_addPiece (l : Launch) {D : va_G} {ar : Nat → ClassId} {B : Nat → Prop} {b n : Nat} {w0 : zcW} (A : Nat → Int) (τ : Nat → Nat → Int) (sort : Int) (hA : ∀ i, inI (A i)) (hR : Rel9 ar b w0 A τ) (hc : cn A) (r_sort : inI sort) (h7 : A 7 < 6) : zt_M l D ar B b w0 n yX2_addPiece cX2_addPiece 2 (some .int) 0 0 [.ref (b + 12), .int (iz sort)] τ (some (.int (iz (A 7)))) (sA (sA τ 12 (ua (τ 12) 0 (A 7 + 1))) 13 (ua (τ 13) (A 7).toNat sort)) := by
  refine zc_start (own := RX2) (by decide +kernel) rfl (Nat.le_of_ble_eq_true rfl) ?_
  intro p e s m args below meth c C K hr hlk hnam
  have zi := hR.i
  unfold rlI at zi
  refine hv_aload_n C 0 0 dX2_addPiece_0 rfl rfl ?_
  refine zc_get C K (v := .int (iz (τ 12 0))) 0 rfl hu_3 (by decide) (cw_at 12 rfl) rfl fl_X2_27 rfl dX2_addPiece_1 ?_
  refine hv_nm (fun x1 ex1 => ?_)
  have rx1 : inI x1 := by rw [ex1]; exact (by have z := hA 7; omega)
  refine hv_bipush C dX2_addPiece_4 (by decide) ?_
  refine hv_icmp_lt C 11 dX2_addPiece_6 (by decide) (by omega) (by omega) (fun h6 => ?_) (fun h6 => ?_)
  · skip
    refine hv_aload_n C 0 0 dX2_addPiece_11 rfl rfl ?_
    refine zc_get C K (v := .ref (b + 13)) 1 rfl hu_3 (by decide) (cw_at 12 rfl) rfl fl_X2_9 rfl dX2_addPiece_12 ?_
    refine hv_aload_n C 0 0 dX2_addPiece_15 rfl rfl ?_
    refine zc_get C K (v := .int (iz (τ 12 0))) 0 rfl hu_3 (by decide) (cw_at 12 rfl) rfl fl_X2_27 rfl dX2_addPiece_16 ?_
    refine hv_nm (fun x2 ex2 => ?_)
    have rx2 : inI x2 := by rw [ex2]; exact (by have z := hA 7; omega)
    obtain ⟨kn, rfl⟩ : ∃ n9 : Nat, x2 = (n9 : Int) := ⟨(x2).toNat, by omega⟩
    refine hv_iload_n C 1 1 dX2_addPiece_19 rfl rfl ?_
    refine zc_iast C K (f := (τ 13)) kn (cw_at 13 rfl) (cw_set 13 kn sort rfl) (by omega) (by omega) (by decide) dX2_addPiece_20 ?_
    refine zt_st (τ2 := sA τ 13 (ua (τ 13) kn sort)) (by rw [u2_sA]; first | done | rfl) ?_
    refine hv_aload_n C 0 0 dX2_addPiece_21 rfl rfl ?_
    refine hv_dup C dX2_addPiece_22 rfl ?_
    refine zc_get C K (v := .int (iz (τ 12 0))) 0 rfl hu_3 (by decide) (cw_at 12 rfl) rfl fl_X2_27 rfl dX2_addPiece_23 ?_
    refine hv_nm (fun x3 ex3 => ?_)
    have rx3 : inI x3 := by rw [ex3]; exact (by have z := hA 7; omega)
    refine hv_iconst C dX2_addPiece_26 ?_
    refine hv_iadd C dX2_addPiece_27 ?_
    refine zc_put C K 0 rfl hu_3 tyX2 tyX2_ok nmX2 (by decide) (cw_at 12 rfl) (cw_set 12 0 (x3 + 1) rfl) fl_X2_27 rfl rfl (ty := .int) (by decide +kernel) rfl rfl (Nat.le_of_ble_eq_true rfl) dX2_addPiece_28 ?_
    refine zt_st (τ2 := sA (sA τ 12 (ua (τ 12) 0 (x3 + 1))) 13 (ua (τ 13) kn sort)) (by rw [u2_sA, sA_comm (j := 13) (k := 12) (by decide)]; first | done | rfl) ?_
    refine hv_aload_n C 0 0 dX2_addPiece_31 rfl rfl ?_
    refine zc_get C K (v := .int (iz (x3 + 1))) 0 rfl hu_3 (by decide) (cw_at 12 rfl) rfl fl_X2_27 rfl dX2_addPiece_32 ?_
    refine hv_iconst C dX2_addPiece_35 ?_
    refine hv_isub C dX2_addPiece_36 ?_
    exact zt_iret C hr hlk (by omega) (by rw [show (A 7).toNat = kn by omega]; exact congrArg (fun z9 => sA (sA τ 12 (ua (τ 12) 0 z9)) 13 (ua (τ 13) kn sort)) (by omega)) dX2_addPiece_37
  · skip
    exfalso; omega
theorem dX11_piece_0 : decode cX11_piece 0 = .ok (.aload_n 0, 1) := by decide +kernel
theorem dX11_piece_1 : decode cX11_piece 1 = .ok (.getfield 10, 3) := by decide +kernel
theorem dX11_piece_4 : decode cX11_piece 4 = .ok (.getfield 275, 3) := by decide +kernel
theorem dX11_piece_7 : decode cX11_piece 7 = .ok (.getfield 279, 3) := by decide +kernel
theorem dX11_piece_10 : decode cX11_piece 10 = .ok (.bipush 6, 2) := by decide +kernel
theorem dX11_piece_12 : decode cX11_piece 12 = .ok (.if_icmp .ge 10, 3) := by decide +kernel
theorem dX11_piece_15 : decode cX11_piece 15 = .ok (.iload_n 1, 1) := by decide +kernel
theorem dX11_piece_16 : decode cX11_piece 16 = .ok (.invokestatic 127, 3) := by decide +kernel
theorem dX11_piece_19 : decode cX11_piece 19 = .ok (.ifCond .ne 5, 3) := by decide +kernel
theorem dX11_piece_22 : decode cX11_piece 22 = .ok (.iconst (-1), 1) := by decide +kernel
theorem dX11_piece_23 : decode cX11_piece 23 = .ok (.ireturn, 1) := by decide +kernel
theorem dX11_piece_24 : decode cX11_piece 24 = .ok (.aload_n 0, 1) := by decide +kernel
theorem dX11_piece_25 : decode cX11_piece 25 = .ok (.getfield 10, 3) := by decide +kernel
theorem dX11_piece_28 : decode cX11_piece 28 = .ok (.getfield 275, 3) := by decide +kernel
theorem dX11_piece_31 : decode cX11_piece 31 = .ok (.iload_n 1, 1) := by decide +kernel
theorem dX11_piece_32 : decode cX11_piece 32 = .ok (.invokevirtual 284, 3) := by decide +kernel
theorem dX11_piece_35 : decode cX11_piece 35 = .ok (.ireturn, 1) := by decide +kernel
theorem ck_X11_127 : zcS RX11 yX11_isSort cX11_isSort 1 (some .boolean) 127 1 := ⟨hk_tq3 86 (by decide +kernel) (by decide +kernel), hk_tq3 84 (by decide +kernel) (by decide +kernel), hk_tq1 1 (by decide +kernel) (by decide +kernel), ⟨by decide, by decide, by decide +kernel⟩, hk_tq3 85 (by decide +kernel) (by decide +kernel)⟩
theorem ck_X11_284 : zcV RX11 RX2 yX2_addPiece cX2_addPiece 2 (some .int) 284 1 := ⟨hk_tq5 60 (by decide +kernel) (by decide +kernel), hk_tq5 57 (by decide +kernel) (by decide +kernel), hk_tq1 6 (by decide +kernel) (by decide +kernel), ⟨by decide, by decide, by decide +kernel⟩, hk_tq5 58 (by decide +kernel) (by decide +kernel), hk_tq5 59 (by decide +kernel) (by decide +kernel)⟩
set_option maxRecDepth 100000 in
set_option maxHeartbeats 4000000 in
theorem k_X11_piece (l : Launch) {D : va_G} {ar : Nat → ClassId} {B : Nat → Prop} {b n : Nat} {w0 : zcW} (A : Nat → Int) (τ : Nat → Nat → Int) (sort : Int) (hA : ∀ i, inI (A i)) (hR : Rel9 ar b w0 A τ) (hc : cn A) (r_sort : inI sort) : zt_M l D ar B b w0 n yX11_piece cX11_piece 2 (some .int) 2 42 [.ref b, .int (iz sort)] τ (some (.int (iz (if (¬ A 7 = 6 ∧ (0 ≤ sort ∧ sort ≤ 7)) then A 7 else -1)))) (if (¬ A 7 = 6 ∧ (0 ≤ sort ∧ sort ≤ 7)) then sA (sA τ 12 (ua (τ 12) 0 (A 7 + 1))) 13 (ua (τ 13) (A 7).toNat sort) else τ) := by
  refine zc_start (own := RX11) (by decide +kernel) rfl (Nat.le_of_ble_eq_true rfl) ?_
  intro p e s m args below meth c C K hr hlk hnam
  have zi := hR.i
  unfold rlI at zi
  refine hv_aload_n C 0 0 dX11_piece_0 rfl rfl ?_
  refine zc_get C K (v := .ref (b + 1)) 0 rfl hu_12 (by decide) cw_0 rfl fl_X11_10 rfl dX11_piece_1 ?_
  refine zc_get C K (v := .ref (b + 12)) 18 rfl hu_9 (by decide) (cw_at 1 rfl) rfl fl_X11_275 rfl dX11_piece_4 ?_
  refine zc_get C K (v := .int (iz (τ 12 0))) 0 rfl hu_3 (by decide) (cw_at 12 rfl) rfl fl_X11_279 rfl dX11_piece_7 ?_
  refine hv_nm (fun x1 ex1 => ?_)
  have rx1 : inI x1 := by rw [ex1]; exact (by have z := hA 7; omega)
  refine hv_bipush C dX11_piece_10 (by decide) ?_
  refine hv_icmp_ge C 22 dX11_piece_12 (by decide) (by omega) (by omega) (fun h12 => ?_) (fun h12 => ?_)
  · skip
    refine hv_iconst C dX11_piece_22 ?_
    exact zt_iret C hr hlk (by (try simp only [Int.toNat_natCast] at *); first | exact if_p (by omega) rfl | exact if_n (by omega) rfl) (by (try simp only [Int.toNat_natCast] at *); first | exact if_p (by omega) rfl | exact if_n (by omega) rfl) dX11_piece_23
  · skip
    refine hv_iload_n C 1 1 dX11_piece_15 rfl rfl ?_
    refine zt_callS [.int (iz sort)] [] C K (k_X11_isSort l  τ sort (by omega)) ck_X11_127 (by decide) ⟨Nat.zero_le _, Nat.zero_le _⟩ rfl (Nat.le_of_ble_eq_true rfl) dX11_piece_16 ?_
    refine hv_as (xb (decide (0 ≤ sort ∧ sort ≤ 7))) rfl ?_
    refine hv_dif_ne C 24 dX11_piece_19 (by decide)  (fun h19 => ?_) (fun h19 => ?_)
    · skip
      refine hv_aload_n C 0 0 dX11_piece_24 rfl rfl ?_
      refine zc_get C K (v := .ref (b + 1)) 0 rfl hu_12 (by decide) cw_0 rfl fl_X11_10 rfl dX11_piece_25 ?_
      refine zc_get C K (v := .ref (b + 12)) 18 rfl hu_9 (by decide) (cw_at 1 rfl) rfl fl_X11_275 rfl dX11_piece_28 ?_
      refine hv_iload_n C 1 1 dX11_piece_31 rfl rfl ?_
      refine zt_callV [.int (iz sort)] [] C K (cw_at 12 rfl) rfl (k_X2_addPiece l A τ sort hA hR hc (by omega) (by omega)) ck_X11_284 (by decide) ⟨Nat.zero_le _, Nat.zero_le _⟩ rfl (Nat.le_of_ble_eq_true rfl) dX11_piece_32 ?_
      refine hv_as ((A 7)) rfl ?_
      refine zt_st (τ2 := sA (sA τ 12 (ua (τ 12) 0 (A 7 + 1))) 13 (ua (τ 13) (A 7).toNat sort)) (by rfl) ?_
      exact zt_iret C hr hlk (by (try simp only [Int.toNat_natCast] at *); first | exact if_p (by omega) rfl | exact if_n (by omega) rfl) (by (try simp only [Int.toNat_natCast] at *); first | exact if_p (by omega) rfl | exact if_n (by omega) rfl) dX11_piece_35
    · skip
      refine hv_iconst C dX11_piece_22 ?_
      exact zt_iret C hr hlk (by (try simp only [Int.toNat_natCast] at *); first | exact if_p (by omega) rfl | exact if_n (by omega) rfl) (by (try simp only [Int.toNat_natCast] at *); first | exact if_p (by omega) rfl | exact if_n (by omega) rfl) dX11_piece_23
