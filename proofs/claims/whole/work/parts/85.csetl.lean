theorem isl_2 {ar : Nat → ClassId} {b : Nat} : isL ar b 2 := ⟨by decide, fun _ => rfl⟩
theorem isl_3 {ar : Nat → ClassId} {b : Nat} : isL ar b 3 := ⟨by decide, fun _ => rfl⟩
theorem isl_6 {ar : Nat → ClassId} {b : Nat} : isL ar b 6 := ⟨by decide, fun _ => rfl⟩
theorem isl_7 {ar : Nat → ClassId} {b : Nat} : isL ar b 7 := ⟨by decide, fun _ => rfl⟩
theorem isl_8 {ar : Nat → ClassId} {b : Nat} : isL ar b 8 := ⟨by decide, fun _ => rfl⟩
theorem dX11_join_0 : decode cX11_join 0 = .ok (.aload_n 0, 1) := by decide +kernel
theorem dX11_join_1 : decode cX11_join 1 = .ok (.getfield 10, 3) := by decide +kernel
theorem dX11_join_4 : decode cX11_join 4 = .ok (.getfield 109, 3) := by decide +kernel
theorem dX11_join_7 : decode cX11_join 7 = .ok (.invokevirtual 52, 3) := by decide +kernel
theorem dX11_join_10 : decode cX11_join 10 = .ok (.bipush 40, 2) := by decide +kernel
theorem dX11_join_12 : decode cX11_join 12 = .ok (.if_icmp .ge 30, 3) := by decide +kernel
theorem dX11_join_15 : decode cX11_join 15 = .ok (.aload_n 0, 1) := by decide +kernel
theorem dX11_join_16 : decode cX11_join 16 = .ok (.iload_n 1, 1) := by decide +kernel
theorem dX11_join_17 : decode cX11_join 17 = .ok (.invokevirtual 112, 3) := by decide +kernel
theorem dX11_join_20 : decode cX11_join 20 = .ok (.ifCond .eq 22, 3) := by decide +kernel
theorem dX11_join_23 : decode cX11_join 23 = .ok (.iload_n 2, 1) := by decide +kernel
theorem dX11_join_24 : decode cX11_join 24 = .ok (.iconst (-1), 1) := by decide +kernel
theorem dX11_join_25 : decode cX11_join 25 = .ok (.if_icmp .eq 10, 3) := by decide +kernel
theorem dX11_join_28 : decode cX11_join 28 = .ok (.iload_n 2, 1) := by decide +kernel
theorem dX11_join_29 : decode cX11_join 29 = .ok (.invokestatic 115, 3) := by decide +kernel
theorem dX11_join_32 : decode cX11_join 32 = .ok (.ifCond .eq 10, 3) := by decide +kernel
theorem dX11_join_35 : decode cX11_join 35 = .ok (.iload_n 3, 1) := by decide +kernel
theorem dX11_join_36 : decode cX11_join 36 = .ok (.invokestatic 86, 3) := by decide +kernel
theorem dX11_join_39 : decode cX11_join 39 = .ok (.ifCond .ne 5, 3) := by decide +kernel
theorem dX11_join_42 : decode cX11_join 42 = .ok (.iconst 0, 1) := by decide +kernel
theorem dX11_join_43 : decode cX11_join 43 = .ok (.ireturn, 1) := by decide +kernel
theorem dX11_join_44 : decode cX11_join 44 = .ok (.aload_n 0, 1) := by decide +kernel
theorem dX11_join_45 : decode cX11_join 45 = .ok (.getfield 10, 3) := by decide +kernel
theorem dX11_join_48 : decode cX11_join 48 = .ok (.getfield 109, 3) := by decide +kernel
theorem dX11_join_51 : decode cX11_join 51 = .ok (.new 118, 3) := by decide +kernel
theorem dX11_join_54 : decode cX11_join 54 = .ok (.dup, 1) := by decide +kernel
theorem dX11_join_55 : decode cX11_join 55 = .ok (.iload_n 1, 1) := by decide +kernel
theorem dX11_join_56 : decode cX11_join 56 = .ok (.iload_n 2, 1) := by decide +kernel
theorem dX11_join_57 : decode cX11_join 57 = .ok (.iload_n 3, 1) := by decide +kernel
theorem dX11_join_58 : decode cX11_join 58 = .ok (.aload_n 0, 1) := by decide +kernel
theorem dX11_join_59 : decode cX11_join 59 = .ok (.getfield 10, 3) := by decide +kernel
theorem dX11_join_62 : decode cX11_join 62 = .ok (.getfield 103, 3) := by decide +kernel
theorem dX11_join_65 : decode cX11_join 65 = .ok (.invokespecial 120, 3) := by decide +kernel
theorem dX11_join_68 : decode cX11_join 68 = .ok (.invokevirtual 71, 3) := by decide +kernel
theorem dX11_join_71 : decode cX11_join 71 = .ok (.pop, 1) := by decide +kernel
theorem dX11_join_72 : decode cX11_join 72 = .ok (.iconst 1, 1) := by decide +kernel
theorem dX11_join_73 : decode cX11_join 73 = .ok (.ireturn, 1) := by decide +kernel
theorem cl_X11_118 : Cond.classLink RX11 118 RX4 ∈ hk_tb := hk_tq3 29 (by decide +kernel) (by decide +kernel)
theorem is_X4 : Cond.instantiable RX4 4 ∈ hk_tb := hk_tq3 30 (by decide +kernel) (by decide +kernel)
theorem it_X4 : Cond.initialized RX4 ∈ hk_tb := hk_tq1 18 (by decide +kernel) (by decide +kernel)
theorem df_X4 : ∀ j, j < 4 → defaultValue (tyX4 j) = vp_V [.int (iz 0), .int (iz 0), .int (iz 0), .int (iz 0)] j := by
  intro j hj
  rcases (by omega : j = 0 ∨ j = 1 ∨ j = 2 ∨ j = 3) with rfl | rfl | rfl | rfl <;> rfl
theorem ci_X11_120 : zcI RX11 yX4_init cX4_init 5 120 4 := ⟨hk_tq3 33 (by decide +kernel) (by decide +kernel), hk_tq3 31 (by decide +kernel) (by decide +kernel), hk_tq1 18 (by decide +kernel) (by decide +kernel), ⟨by decide, by decide, by decide +kernel⟩, hk_tq3 32 (by decide +kernel) (by decide +kernel), rfl⟩
theorem ck_X11_71 : zcV RX11 RJx4a65c yJx4a65c_add_9ea2d cJx4a65c_add_9ea2d 2 (some .boolean) 71 1 := ⟨hk_tq2 137 (by decide +kernel) (by decide +kernel), hk_tq2 134 (by decide +kernel) (by decide +kernel), hk_tq1 5 (by decide +kernel) (by decide +kernel), ⟨by decide, by decide, by decide +kernel⟩, hk_tq2 135 (by decide +kernel) (by decide +kernel), hk_tq2 136 (by decide +kernel) (by decide +kernel)⟩
theorem ck_X11_115 : zcS RX11 yX11_isNetwork cX11_isNetwork 1 (some .boolean) 115 1 := ⟨hk_tq3 28 (by decide +kernel) (by decide +kernel), hk_tq3 26 (by decide +kernel) (by decide +kernel), hk_tq1 1 (by decide +kernel) (by decide +kernel), ⟨by decide, by decide, by decide +kernel⟩, hk_tq3 27 (by decide +kernel) (by decide +kernel)⟩
set_option maxRecDepth 100000 in
set_option maxHeartbeats 4000000 in
theorem s_X11_join (l : Launch) {D : va_G} {ar : Nat → ClassId} {B : Nat → Prop} {b n : Nat} {w0 : zcW} {o : olP} (A : Nat → Int) (τ : Nat → Nat → Int) (st : Int) (nw : Int) (fd : Int) (hA : ∀ i, inI (A i)) (hR : Rel9 ar b w0 A τ) (hc : cn A) (r_st : inI st) (r_nw : inI nw) (r_fd : inI fd) (hI : lsq9 ar b w0 n o.2.1 (τ 6)) (hn : b + 47 ≤ n) (he0 : o.2.1 < b) (hB : ∀ q, B q → b ≤ q) (hfree : ∀ a, n ≤ a → w0 a = none) : zo_M l D ar B o yX11_join cX11_join 4 (some .boolean) 7 261 2 64 [.ref b, .int (iz st), .int (iz nw), .int (iz fd)] (cw ar b τ w0) n (fun r' w' n' => (¬ ok_join A st nw fd ∧ r' = some (.int (iz 0)) ∧ w' = cw ar b τ w0 ∧ n' = n) ∨ (ok_join A st nw fd ∧ r' = some (.int (iz 1)) ∧ ∃ (e9 N9 : Nat) (f9 : Nat → Option Nat) (m9 : Int) (w9 : zcW), adP ar b τ w0 n o.2.1 6 (A 3).toNat (.inr (5, [.int (iz st), .int (iz nw), .int (iz fd), .int (iz (A 8))])) e9 N9 f9 w9 n' ∧ w' = cw ar b (sA τ 6 (lv9 m9 ((e9 : Nat) : Int) ((((A 3).toNat : Nat) : Int) + 1))) w9)) := by
  refine zo_start (own := RX11) (by decide +kernel) rfl (Nat.le_of_ble_eq_true rfl) ?_
  intro p e s m args below meth c C K O hz hr hlk hnam
  have zl6 := hR.l6.1
  have zi := hR.i
  unfold rlI at zi
  refine hv_aload_n C 0 0 dX11_join_0 rfl rfl ?_
  refine zc_get C K (v := .ref (b + 1)) 0 rfl hu_12 (by decide) cw_0 rfl fl_X11_10 rfl dX11_join_1 ?_
  refine zc_get C K (v := .ref (b + 6)) 5 rfl hu_9 (by decide) (cw_at 1 rfl) rfl fl_X11_109 rfl dX11_join_4 ?_
  refine zt_callV [] [] C K (cw_at 6 rfl) rfl (k_Jx4a65c_size_8abf5 l 6 τ  rfl) ck_X11_52 (by decide) ⟨Nat.zero_le _, Nat.zero_le _⟩ rfl (Nat.le_of_ble_eq_true rfl) dX11_join_7 ?_
  refine hv_as ((τ 6 2)) rfl ?_
  refine hv_nm (fun x1 ex1 => ?_)
  have rx1 : inI x1 := by rw [ex1]; exact (by have z := hA 3; omega)
  refine hv_bipush C dX11_join_10 (by decide) ?_
  refine hv_icmp_ge C 42 dX11_join_12 (by decide) (by omega) (by omega) (fun h12 => ?_) (fun h12 => ?_)
  · skip
    refine hv_iconst C dX11_join_42 ?_
    refine hv_widen 2 64 (by decide) (by decide) ?_; exact zc_zret C hr hlk (v := false) rfl (Or.inl ⟨by omega, rfl, rfl, rfl⟩) dX11_join_43
  · skip
    refine hv_aload_n C 0 0 dX11_join_15 rfl rfl ?_
    refine hv_iload_n C 1 1 dX11_join_16 rfl rfl ?_
    refine zt_callV [.int (iz st)] [] C K cw_0 rfl (k_X11_isStation l A τ st hA hR (by omega) hc) ck_X11_112 (by decide) ⟨Nat.zero_le _, Nat.zero_le _⟩ rfl (Nat.le_of_ble_eq_true rfl) dX11_join_17 ?_
    refine hv_as (xb (decide (0 ≤ st ∧ st ≤ A 2 - 1))) rfl ?_
    refine hv_dif_eq C 42 dX11_join_20 (by decide)  (fun h20 => ?_) (fun h20 => ?_)
    · skip
      refine hv_iconst C dX11_join_42 ?_
      refine hv_widen 2 64 (by decide) (by decide) ?_; exact zc_zret C hr hlk (v := false) rfl (Or.inl ⟨by omega, rfl, rfl, rfl⟩) dX11_join_43
    · skip
      refine hv_iload_n C 2 2 dX11_join_23 rfl rfl ?_
      refine hv_iconst C dX11_join_24 ?_
      refine hv_icmp_eq C 35 dX11_join_25 (by decide) (by omega) (by omega) (fun h25 => ?_) (fun h25 => ?_)
      · skip
        refine hv_iload_n C 3 3 dX11_join_35 rfl rfl ?_
        refine zt_callS [.int (iz fd)] [] C K (k_X11_isDay l  τ fd (by omega)) ck_X11_86 (by decide) ⟨Nat.zero_le _, Nat.zero_le _⟩ rfl (Nat.le_of_ble_eq_true rfl) dX11_join_36 ?_
        refine hv_as (xb (decide (0 ≤ fd ∧ fd ≤ 199))) rfl ?_
        refine hv_dif_ne C 44 dX11_join_39 (by decide)  (fun h39 => ?_) (fun h39 => ?_)
        · skip
          refine hv_aload_n C 0 0 dX11_join_44 rfl rfl ?_
          refine zc_get C K (v := .ref (b + 1)) 0 rfl hu_12 (by decide) cw_0 rfl fl_X11_10 rfl dX11_join_45 ?_
          refine zc_get C K (v := .ref (b + 6)) 5 rfl hu_9 (by decide) (cw_at 1 rfl) rfl fl_X11_109 rfl dX11_join_48 ?_
          refine zg_new (ci := 5) C K [.int (iz 0), .int (iz 0), .int (iz 0), .int (iz 0)] rfl hu_5 tyX4 tyX4_ok cl_X11_118 is_X4 it_X4 (df_X4) (by decide) dX11_join_51 (n2 := n + 1) rfl ?_
          refine hv_dup C dX11_join_54 rfl ?_
          refine hv_iload_n C 1 1 dX11_join_55 rfl rfl ?_
          refine hv_iload_n C 2 2 dX11_join_56 rfl rfl ?_
          refine hv_iload_n C 3 3 dX11_join_57 rfl rfl ?_
          refine hv_aload_n C 0 0 dX11_join_58 rfl rfl ?_
          refine zc_get C K (v := .ref (b + 1)) 0 rfl hu_12 (by decide) (zg_ne (by omega) cw_0) rfl fl_X11_10 rfl dX11_join_59 ?_
          refine zc_get C K (v := .int (iz (τ 1 8))) 8 rfl hu_9 (by decide) (zg_ne (by omega) (cw_at 1 rfl)) rfl fl_X11_103 rfl dX11_join_62 ?_
          refine hv_nm (fun x2 ex2 => ?_)
          have rx2 : inI x2 := by rw [ex2]; exact (by have z := hA 8; omega)
          refine hv_as ((A 8)) (by omega) ?_
          refine zg_callI [.int (iz st), .int (iz nw), .int (iz fd), .int (iz (A 8))] [.ref n, .ref (b + 6)] C K (g_X4_init l st nw fd (A 8) (by omega) zg_at) ci_X11_120 (by decide) (by decide) rfl (Nat.le_of_ble_eq_true rfl) dX11_join_65 (w2 := (zc_u (cw ar b τ w0) n (.inr (5, [.int (iz st), .int (iz nw), .int (iz fd), .int (iz (A 8))])))) (n2 := n + 1) (fun r' w' n' h => ⟨h.1, h.2.1.trans zg_uu, h.2.2⟩) ?_
          refine zl_add 6 (A 3).toNat C K O isl_6 hI (by omega) (by omega) hn he0 hB hfree (by rfl) (by decide +kernel) (by rfl) ck_X11_71 (by decide) (by decide) (Nat.le_of_ble_eq_true rfl) dX11_join_68 (fun e9 N9 f9 m9 w9 n9 hP => ?_)
          refine hv_pop C dX11_join_71 rfl ?_
          refine hv_iconst C dX11_join_72 ?_
          refine hv_widen 2 64 (by decide) (by decide) ?_; exact zc_zret C hr hlk (v := true) rfl (Or.inr ⟨by omega, rfl, e9, N9, f9, m9, w9, hP, rfl⟩) dX11_join_73
        · skip
          refine hv_iconst C dX11_join_42 ?_
          refine hv_widen 2 64 (by decide) (by decide) ?_; exact zc_zret C hr hlk (v := false) rfl (Or.inl ⟨by omega, rfl, rfl, rfl⟩) dX11_join_43
      · skip
        refine hv_iload_n C 2 2 dX11_join_28 rfl rfl ?_
        refine zt_callS [.int (iz nw)] [] C K (k_X11_isNetwork l  τ nw (by omega)) ck_X11_115 (by decide) ⟨Nat.zero_le _, Nat.zero_le _⟩ rfl (Nat.le_of_ble_eq_true rfl) dX11_join_29 ?_
        refine hv_as (xb (decide (0 ≤ nw ∧ nw ≤ 2))) rfl ?_
        refine hv_dif_eq C 42 dX11_join_32 (by decide)  (fun h32 => ?_) (fun h32 => ?_)
        · skip
          refine hv_iconst C dX11_join_42 ?_
          refine hv_widen 2 64 (by decide) (by decide) ?_; exact zc_zret C hr hlk (v := false) rfl (Or.inl ⟨by omega, rfl, rfl, rfl⟩) dX11_join_43
        · skip
          refine hv_iload_n C 3 3 dX11_join_35 rfl rfl ?_
          refine zt_callS [.int (iz fd)] [] C K (k_X11_isDay l  τ fd (by omega)) ck_X11_86 (by decide) ⟨Nat.zero_le _, Nat.zero_le _⟩ rfl (Nat.le_of_ble_eq_true rfl) dX11_join_36 ?_
          refine hv_as (xb (decide (0 ≤ fd ∧ fd ≤ 199))) rfl ?_
          refine hv_dif_ne C 44 dX11_join_39 (by decide)  (fun h39 => ?_) (fun h39 => ?_)
          · skip
            refine hv_aload_n C 0 0 dX11_join_44 rfl rfl ?_
            refine zc_get C K (v := .ref (b + 1)) 0 rfl hu_12 (by decide) cw_0 rfl fl_X11_10 rfl dX11_join_45 ?_
            refine zc_get C K (v := .ref (b + 6)) 5 rfl hu_9 (by decide) (cw_at 1 rfl) rfl fl_X11_109 rfl dX11_join_48 ?_
            refine zg_new (ci := 5) C K [.int (iz 0), .int (iz 0), .int (iz 0), .int (iz 0)] rfl hu_5 tyX4 tyX4_ok cl_X11_118 is_X4 it_X4 (df_X4) (by decide) dX11_join_51 (n2 := n + 1) rfl ?_
            refine hv_dup C dX11_join_54 rfl ?_
            refine hv_iload_n C 1 1 dX11_join_55 rfl rfl ?_
            refine hv_iload_n C 2 2 dX11_join_56 rfl rfl ?_
            refine hv_iload_n C 3 3 dX11_join_57 rfl rfl ?_
            refine hv_aload_n C 0 0 dX11_join_58 rfl rfl ?_
            refine zc_get C K (v := .ref (b + 1)) 0 rfl hu_12 (by decide) (zg_ne (by omega) cw_0) rfl fl_X11_10 rfl dX11_join_59 ?_
            refine zc_get C K (v := .int (iz (τ 1 8))) 8 rfl hu_9 (by decide) (zg_ne (by omega) (cw_at 1 rfl)) rfl fl_X11_103 rfl dX11_join_62 ?_
            refine hv_nm (fun x3 ex3 => ?_)
            have rx3 : inI x3 := by rw [ex3]; exact (by have z := hA 8; omega)
            refine hv_as ((A 8)) (by omega) ?_
            refine zg_callI [.int (iz st), .int (iz nw), .int (iz fd), .int (iz (A 8))] [.ref n, .ref (b + 6)] C K (g_X4_init l st nw fd (A 8) (by omega) zg_at) ci_X11_120 (by decide) (by decide) rfl (Nat.le_of_ble_eq_true rfl) dX11_join_65 (w2 := (zc_u (cw ar b τ w0) n (.inr (5, [.int (iz st), .int (iz nw), .int (iz fd), .int (iz (A 8))])))) (n2 := n + 1) (fun r' w' n' h => ⟨h.1, h.2.1.trans zg_uu, h.2.2⟩) ?_
            refine zl_add 6 (A 3).toNat C K O isl_6 hI (by omega) (by omega) hn he0 hB hfree (by rfl) (by decide +kernel) (by rfl) ck_X11_71 (by decide) (by decide) (Nat.le_of_ble_eq_true rfl) dX11_join_68 (fun e9 N9 f9 m9 w9 n9 hP => ?_)
            refine hv_pop C dX11_join_71 rfl ?_
            refine hv_iconst C dX11_join_72 ?_
            refine hv_widen 2 64 (by decide) (by decide) ?_; exact zc_zret C hr hlk (v := true) rfl (Or.inr ⟨by omega, rfl, e9, N9, f9, m9, w9, hP, rfl⟩) dX11_join_73
          · skip
            refine hv_iconst C dX11_join_42 ?_
            refine hv_widen 2 64 (by decide) (by decide) ?_; exact zc_zret C hr hlk (v := false) rfl (Or.inl ⟨by omega, rfl, rfl, rfl⟩) dX11_join_43
