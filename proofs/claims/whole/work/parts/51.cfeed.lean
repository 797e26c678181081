theorem s1_9 (τ : Nat → Nat → Int) (v w : Int) (X Y : Nat → Int) : sA (sA (sA (sA τ 1 (ua (τ 1) 12 v)) 9 X) 1 (ua (ua (τ 1) 12 v) 12 w)) 9 Y = sA (sA τ 1 (ua (τ 1) 12 w)) 9 Y := by
  rw [sA_comm (j := 9) (k := 1) (by decide), sA_sA, sA_sA, ua_ua]

theorem dX11_feed_0 : decode cX11_feed 0 = .ok (.aload_n 0, 1) := by decide +kernel
theorem dX11_feed_1 : decode cX11_feed 1 = .ok (.getfield 10, 3) := by decide +kernel
theorem dX11_feed_4 : decode cX11_feed 4 = .ok (.getfield 170, 3) := by decide +kernel
theorem dX11_feed_7 : decode cX11_feed 7 = .ok (.bipush 20, 2) := by decide +kernel
theorem dX11_feed_9 : decode cX11_feed 9 = .ok (.iadd, 1) := by decide +kernel
theorem dX11_feed_10 : decode cX11_feed 10 = .ok (.sipush 500, 3) := by decide +kernel
theorem dX11_feed_13 : decode cX11_feed 13 = .ok (.if_icmp .le 5, 3) := by decide +kernel
theorem dX11_feed_16 : decode cX11_feed 16 = .ok (.iconst (-1), 1) := by decide +kernel
theorem dX11_feed_17 : decode cX11_feed 17 = .ok (.ireturn, 1) := by decide +kernel
theorem dX11_feed_18 : decode cX11_feed 18 = .ok (.aload_n 0, 1) := by decide +kernel
theorem dX11_feed_19 : decode cX11_feed 19 = .ok (.getfield 10, 3) := by decide +kernel
theorem dX11_feed_22 : decode cX11_feed 22 = .ok (.iload_n 1, 1) := by decide +kernel
theorem dX11_feed_23 : decode cX11_feed 23 = .ok (.invokevirtual 173, 3) := by decide +kernel
theorem dX11_feed_26 : decode cX11_feed 26 = .ok (.aload_n 0, 1) := by decide +kernel
theorem dX11_feed_27 : decode cX11_feed 27 = .ok (.getfield 10, 3) := by decide +kernel
theorem dX11_feed_30 : decode cX11_feed 30 = .ok (.iload_n 2, 1) := by decide +kernel
theorem dX11_feed_31 : decode cX11_feed 31 = .ok (.invokevirtual 173, 3) := by decide +kernel
theorem dX11_feed_34 : decode cX11_feed 34 = .ok (.aload_n 0, 1) := by decide +kernel
theorem dX11_feed_35 : decode cX11_feed 35 = .ok (.getfield 10, 3) := by decide +kernel
theorem dX11_feed_38 : decode cX11_feed 38 = .ok (.iload_n 3, 1) := by decide +kernel
theorem dX11_feed_39 : decode cX11_feed 39 = .ok (.invokevirtual 173, 3) := by decide +kernel
theorem dX11_feed_42 : decode cX11_feed 42 = .ok (.aload_n 0, 1) := by decide +kernel
theorem dX11_feed_43 : decode cX11_feed 43 = .ok (.getfield 10, 3) := by decide +kernel
theorem dX11_feed_46 : decode cX11_feed 46 = .ok (.iload 4, 2) := by decide +kernel
theorem dX11_feed_48 : decode cX11_feed 48 = .ok (.invokevirtual 173, 3) := by decide +kernel
theorem dX11_feed_51 : decode cX11_feed 51 = .ok (.aload_n 0, 1) := by decide +kernel
theorem dX11_feed_52 : decode cX11_feed 52 = .ok (.getfield 10, 3) := by decide +kernel
theorem dX11_feed_55 : decode cX11_feed 55 = .ok (.iload 5, 2) := by decide +kernel
theorem dX11_feed_57 : decode cX11_feed 57 = .ok (.invokevirtual 173, 3) := by decide +kernel
theorem dX11_feed_60 : decode cX11_feed 60 = .ok (.aload_n 0, 1) := by decide +kernel
theorem dX11_feed_61 : decode cX11_feed 61 = .ok (.getfield 10, 3) := by decide +kernel
theorem dX11_feed_64 : decode cX11_feed 64 = .ok (.getfield 170, 3) := by decide +kernel
theorem dX11_feed_67 : decode cX11_feed 67 = .ok (.ireturn, 1) := by decide +kernel
theorem ck_X11_173 : zcV RX11 RX8 yX8_putOnTape cX8_putOnTape 3 none 173 1 := ⟨hk_tq3 174 (by decide +kernel) (by decide +kernel), hk_tq3 171 (by decide +kernel) (by decide +kernel), hk_tq1 2 (by decide +kernel) (by decide +kernel), ⟨by decide, by decide, by decide +kernel⟩, hk_tq3 172 (by decide +kernel) (by decide +kernel), hk_tq3 173 (by decide +kernel) (by decide +kernel)⟩
set_option maxRecDepth 100000 in
set_option maxHeartbeats 4000000 in
theorem k_X11_feed (l : Launch) {D : va_G} {ar : Nat → ClassId} {B : Nat → Prop} {b n : Nat} {w0 : zcW} (A : Nat → Int) (τ : Nat → Nat → Int) (a : Int) (b1 : Int) (c1 : Int) (d1 : Int) (e1 : Int) (hA : ∀ i, inI (A i)) (hR : Rel9 ar b w0 A τ) (hc : cn A) (r_a : inI a) (r_b1 : inI b1) (r_c1 : inI c1) (r_d1 : inI d1) (r_e1 : inI e1) : zt_M l D ar B b w0 n yX11_feed cX11_feed 6 (some .int) 1 22 [.ref b, .int (iz a), .int (iz b1), .int (iz c1), .int (iz d1), .int (iz e1)] τ (some (.int (iz (if 500 < A 10 + 20 then -1 else A 10 + 20)))) (if 500 < A 10 + 20 then τ else sA (sA τ 1 (ua (τ 1) 12 ((((((τ 1 12) + 4) + 4) + 4) + 4) + 4))) 9 (pt9 (pt9 (pt9 (pt9 (pt9 (τ 9) ((τ 1 12)).toNat a 4) (((τ 1 12) + 4)).toNat b1 4) ((((τ 1 12) + 4) + 4)).toNat c1 4) (((((τ 1 12) + 4) + 4) + 4)).toNat d1 4) ((((((τ 1 12) + 4) + 4) + 4) + 4)).toNat e1 4)) := by
  refine zc_start (own := RX11) (by decide +kernel) rfl (Nat.le_of_ble_eq_true rfl) ?_
  intro p e s m args below meth c C K hr hlk hnam
  have zi := hR.i
  unfold rlI at zi
  refine hv_aload_n C 0 0 dX11_feed_0 rfl rfl ?_
  refine zc_get C K (v := .ref (b + 1)) 0 rfl hu_12 (by decide) cw_0 rfl fl_X11_10 rfl dX11_feed_1 ?_
  refine zc_get C K (v := .int (iz (τ 1 12))) 12 rfl hu_9 (by decide) (cw_at 1 rfl) rfl fl_X11_170 rfl dX11_feed_4 ?_
  refine hv_nm (fun x1 ex1 => ?_)
  have rx1 : inI x1 := by rw [ex1]; exact (by have z := hA 10; omega)
  refine hv_bipush C dX11_feed_7 (by decide) ?_
  refine hv_iadd C dX11_feed_9 ?_
  refine hv_sipush C dX11_feed_10 (by decide) ?_
  refine hv_icmp_le C 18 dX11_feed_13 (by decide) (by omega) (by omega) (fun h13 => ?_) (fun h13 => ?_)
  · skip
    refine hv_aload_n C 0 0 dX11_feed_18 rfl rfl ?_
    refine zc_get C K (v := .ref (b + 1)) 0 rfl hu_12 (by decide) cw_0 rfl fl_X11_10 rfl dX11_feed_19 ?_
    refine hv_iload_n C 1 1 dX11_feed_22 rfl rfl ?_
    refine zt_callV [.int (iz a)] [] C K (cw_at 1 rfl) rfl (k_X8_putOnTape l  τ a (show 0 ≤ (τ 1 12) ∧ (τ 1 12) ≤ 496 by omega) (by omega)) ck_X11_173 (by decide) ⟨Nat.zero_le _, Nat.zero_le _⟩ rfl (Nat.le_of_ble_eq_true rfl) dX11_feed_23 ?_
    refine zt_st (τ2 := sA (sA τ 1 (ua (τ 1) 12 ((τ 1 12) + 4))) 9 (pt9 (τ 9) ((τ 1 12)).toNat a 4)) (by first | rfl | exact s1_9 _ _ _ _ _) ?_
    refine hv_aload_n C 0 0 dX11_feed_26 rfl rfl ?_
    refine zc_get C K (v := .ref (b + 1)) 0 rfl hu_12 (by decide) cw_0 rfl fl_X11_10 rfl dX11_feed_27 ?_
    refine hv_iload_n C 2 2 dX11_feed_30 rfl rfl ?_
    refine zt_callV [.int (iz b1)] [] C K (cw_at 1 rfl) rfl (k_X8_putOnTape l  (sA (sA τ 1 (ua (τ 1) 12 ((τ 1 12) + 4))) 9 (pt9 (τ 9) ((τ 1 12)).toNat a 4)) b1 (show 0 ≤ ((τ 1 12) + 4) ∧ ((τ 1 12) + 4) ≤ 496 by omega) (by omega)) ck_X11_173 (by decide) ⟨Nat.zero_le _, Nat.zero_le _⟩ rfl (Nat.le_of_ble_eq_true rfl) dX11_feed_31 ?_
    refine zt_st (τ2 := sA (sA τ 1 (ua (τ 1) 12 (((τ 1 12) + 4) + 4))) 9 (pt9 (pt9 (τ 9) ((τ 1 12)).toNat a 4) (((τ 1 12) + 4)).toNat b1 4)) (by first | rfl | exact s1_9 _ _ _ _ _) ?_
    refine hv_aload_n C 0 0 dX11_feed_34 rfl rfl ?_
    refine zc_get C K (v := .ref (b + 1)) 0 rfl hu_12 (by decide) cw_0 rfl fl_X11_10 rfl dX11_feed_35 ?_
    refine hv_iload_n C 3 3 dX11_feed_38 rfl rfl ?_
    refine zt_callV [.int (iz c1)] [] C K (cw_at 1 rfl) rfl (k_X8_putOnTape l  (sA (sA τ 1 (ua (τ 1) 12 (((τ 1 12) + 4) + 4))) 9 (pt9 (pt9 (τ 9) ((τ 1 12)).toNat a 4) (((τ 1 12) + 4)).toNat b1 4)) c1 (show 0 ≤ (((τ 1 12) + 4) + 4) ∧ (((τ 1 12) + 4) + 4) ≤ 496 by omega) (by omega)) ck_X11_173 (by decide) ⟨Nat.zero_le _, Nat.zero_le _⟩ rfl (Nat.le_of_ble_eq_true rfl) dX11_feed_39 ?_
    refine zt_st (τ2 := sA (sA τ 1 (ua (τ 1) 12 ((((τ 1 12) + 4) + 4) + 4))) 9 (pt9 (pt9 (pt9 (τ 9) ((τ 1 12)).toNat a 4) (((τ 1 12) + 4)).toNat b1 4) ((((τ 1 12) + 4) + 4)).toNat c1 4)) (by first | rfl | exact s1_9 _ _ _ _ _) ?_
    refine hv_aload_n C 0 0 dX11_feed_42 rfl rfl ?_
    refine zc_get C K (v := .ref (b + 1)) 0 rfl hu_12 (by decide) cw_0 rfl fl_X11_10 rfl dX11_feed_43 ?_
    refine hv_iload C 4 4 dX11_feed_46 rfl ?_
    refine zt_callV [.int (iz d1)] [] C K (cw_at 1 rfl) rfl (k_X8_putOnTape l  (sA (sA τ 1 (ua (τ 1) 12 ((((τ 1 12) + 4) + 4) + 4))) 9 (pt9 (pt9 (pt9 (τ 9) ((τ 1 12)).toNat a 4) (((τ 1 12) + 4)).toNat b1 4) ((((τ 1 12) + 4) + 4)).toNat c1 4)) d1 (show 0 ≤ ((((τ 1 12) + 4) + 4) + 4) ∧ ((((τ 1 12) + 4) + 4) + 4) ≤ 496 by omega) (by omega)) ck_X11_173 (by decide) ⟨Nat.zero_le _, Nat.zero_le _⟩ rfl (Nat.le_of_ble_eq_true rfl) dX11_feed_48 ?_
    refine zt_st (τ2 := sA (sA τ 1 (ua (τ 1) 12 (((((τ 1 12) + 4) + 4) + 4) + 4))) 9 (pt9 (pt9 (pt9 (pt9 (τ 9) ((τ 1 12)).toNat a 4) (((τ 1 12) + 4)).toNat b1 4) ((((τ 1 12) + 4) + 4)).toNat c1 4) (((((τ 1 12) + 4) + 4) + 4)).toNat d1 4)) (by first | rfl | exact s1_9 _ _ _ _ _) ?_
    refine hv_aload_n C 0 0 dX11_feed_51 rfl rfl ?_
    refine zc_get C K (v := .ref (b + 1)) 0 rfl hu_12 (by decide) cw_0 rfl fl_X11_10 rfl dX11_feed_52 ?_
    refine hv_iload C 5 5 dX11_feed_55 rfl ?_
    refine zt_callV [.int (iz e1)] [] C K (cw_at 1 rfl) rfl (k_X8_putOnTape l  (sA (sA τ 1 (ua (τ 1) 12 (((((τ 1 12) + 4) + 4) + 4) + 4))) 9 (pt9 (pt9 (pt9 (pt9 (τ 9) ((τ 1 12)).toNat a 4) (((τ 1 12) + 4)).toNat b1 4) ((((τ 1 12) + 4) + 4)).toNat c1 4) (((((τ 1 12) + 4) + 4) + 4)).toNat d1 4)) e1 (show 0 ≤ (((((τ 1 12) + 4) + 4) + 4) + 4) ∧ (((((τ 1 12) + 4) + 4) + 4) + 4) ≤ 496 by omega) (by omega)) ck_X11_173 (by decide) ⟨Nat.zero_le _, Nat.zero_le _⟩ rfl (Nat.le_of_ble_eq_true rfl) dX11_feed_57 ?_
    refine zt_st (τ2 := sA (sA τ 1 (ua (τ 1) 12 ((((((τ 1 12) + 4) + 4) + 4) + 4) + 4))) 9 (pt9 (pt9 (pt9 (pt9 (pt9 (τ 9) ((τ 1 12)).toNat a 4) (((τ 1 12) + 4)).toNat b1 4) ((((τ 1 12) + 4) + 4)).toNat c1 4) (((((τ 1 12) + 4) + 4) + 4)).toNat d1 4) ((((((τ 1 12) + 4) + 4) + 4) + 4)).toNat e1 4)) (by first | rfl | exact s1_9 _ _ _ _ _) ?_
    refine hv_aload_n C 0 0 dX11_feed_60 rfl rfl ?_
    refine zc_get C K (v := .ref (b + 1)) 0 rfl hu_12 (by decide) cw_0 rfl fl_X11_10 rfl dX11_feed_61 ?_
    refine zc_get C K (v := .int (iz ((((((τ 1 12) + 4) + 4) + 4) + 4) + 4))) 12 rfl hu_9 (by decide) (cw_at 1 rfl) rfl fl_X11_170 rfl dX11_feed_64 ?_
    exact zt_iret C hr hlk (by first | exact if_p (by omega) rfl | (refine if_n (by omega) ?_; omega)) (by first | exact if_p (by omega) rfl | exact if_n (by omega) rfl) dX11_feed_67
  · skip
    refine hv_iconst C dX11_feed_16 ?_
    exact zt_iret C hr hlk (by first | exact if_p (by omega) rfl | (refine if_n (by omega) ?_; omega)) (by first | exact if_p (by omega) rfl | exact if_n (by omega) rfl) dX11_feed_17
