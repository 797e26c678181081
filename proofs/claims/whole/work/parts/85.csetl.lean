theorem isl_2 {ar : Nat → ClassId} {b : Nat} : isL ar b 2 := ⟨by decide, fun _ => rfl⟩
theorem isl_3 {ar : Nat → ClassId} {b : Nat} : isL ar b 3 := ⟨by decide, fun _ => rfl⟩
theorem isl_6 {ar : Nat → ClassId} {b : Nat} : isL ar b 6 := ⟨by decide, fun _ => rfl⟩
theorem isl_7 {ar : Nat → ClassId} {b : Nat} : isL ar b 7 := ⟨by decide, fun _ => rfl⟩
theorem isl_8 {ar : Nat → ClassId} {b : Nat} : isL ar b 8 := ⟨by decide, fun _ => rfl⟩
theorem dX11_join_0 : decode cX11_join 0 = .ok (.aload_n 0, 1) := by decide +kernel
theorem dX11_join_1 : decode cX11_join 1 = .ok (.getfield 10, 3) := by decide +kernel
theorem dX11_join_4 : decode cX11_join 4 = .ok (.getfield 109, 3) := by decide +kernel
theorem dX11_join_7 : decode cX11_join 7 = .ok (.invokevirtual 52, 3) := by decide +kernel
theorem dX11_join_10 : decode cX11_join 10 = .ok (.bipush 40, 2) := by decide +kernel
theorem dX11_join_12 : decode cX11_join 12 = .ok (.if_icmp .ge 30, 3) := by decide +kernel
theorem dX11_join_15 : decode cX11_join 15 = .ok (.aload_n 0, 1) := by decide +kernel
theorem dX11_join_16 : decode cX11_join 16 = .ok (.iload_n 1, 1) := by decide +kernel
theorem dX11_join_17 : decode cX11_join 17 = .ok (.invokevirtual 112, 3) := by decide +kernel
theorem dX11_join_20 : decode cX11_join 20 = .ok (.ifCond .eq 22, 3) := by decide +kernel
theorem dX11_join_23 : decode cX11_join 23 = .ok (.iload_n 2, 1) := by decide +kernel
theorem dX11_join_24 : decode cX11_join 24 = .ok (.iconst (-1), 1) := by decide +kernel
theorem dX11_join_25 : decode cX11_join 25 = .ok (.if_icmp .eq 10, 3) := by decide +kernel
theorem dX11_join_28 : decode cX11_join 28 = .ok (.iload_n 2, 1) := by decide +kernel
theorem dX11_join_29 : decode cX11_join 29 = .ok (.invokestatic 115, 3) := by decide +kernel
theorem dX11_join_32 : decode cX11_join 32 = .ok (.ifCond .eq 10, 3) := by decide +kernel
theorem dX11_join_35 : decode cX11_join 35 = .ok (.iload_n 3, 1) := by decide +kernel
theorem dX11_join_36 : decode cX11_join 36 = .ok (.invokestatic 86, 3) := by decide +kernel
theorem dX11_join_39 : decode cX11_join 39 = .ok (.ifCond .ne 5, 3) := by decide +kernel
theorem dX11_join_42 : decode cX11_join 42 = .ok (.iconst 0, 1) := by decide +kernel
theorem dX11_join_43 : decode cX11_join 43 = .ok (.ireturn, 1) := by decide +kernel
theorem dX11_join_44 : decode cX11_join 44 = .ok (.aload_n 0, 1) := by decide +kernel
theorem dX11_join_45 : decode cX11_join 45 = .ok (.getfield 10, 3) := by decide +kernel
theorem dX11_join_48 : decode cX11_join 48 = .ok (.getfield 109, 3) := by decide +kernel
theorem dX11_join_51 : decode cX11_join 51 = .ok (.new 118, 3) := by decide +kernel
theorem dX11_join_54 : decode cX11_join 54 = .ok (.dup, 1) := by decide +kernel
theorem dX11_join_55 : decode cX11_join 55 = .ok (.iload_n 1, 1) := by decide +kernel
theorem dX11_join_56 : decode cX11_join 56 = .ok (.iload_n 2, 1) := by decide +kernel
theorem dX11_join_57 : decode cX11_join 57 = .ok (.iload_n 3, 1) := by decide +kernel
theorem dX11_join_58 : decode cX11_join 58 = .ok (.aload_n 0, 1) := by decide +kernel
theorem dX11_join_59 : decode cX11_join 59 = .ok (.getfield 10, 3) := by decide +kernel
theorem dX11_join_62 : decode cX11_join 62 = .ok (.getfield 103, 3) := by decide +kernel
theorem dX11_join_65 : decode cX11_join 65 = .ok (.invokespecial 120, 3) := by decide +kernel
theorem dX11_join_68 : decode cX11_join 68 = .ok (.invokevirtual 71, 3) := by decide +kernel
theorem dX11_join_71 : decode cX11_join 71 = .ok (.pop, 1) := by decide +kernel
theorem dX11_join_72 : decode cX11_join 72 = .ok (.iconst 1, 1) := by decide +kernel
theorem dX11_join_73 : decode cX11_join 73 = .ok (.ireturn, 1) := by decide +kernel
theorem cl_X11_118 : Cond.classLink RX11 118 RX4 ∈ hk_tb := hk_tq3 29 (by decide +kernel) (by decide +kernel)
theorem is_X4 : Cond.instantiable RX4 4 ∈ hk_tb := hk_tq3 30 (by decide +kernel) (by decide +kernel)
theorem it_X4 : Cond.initialized RX4 ∈ hk_tb := hk_tq1 18 (by decide +kernel) (by decide +kernel)
theorem df_X4 : ∀ j, j < 4 → defaultValue (tyX4 j) = vp_V [.int (iz 0), .int (iz 0), .int (iz 0), .int (iz 0)] j := by
  intro j hj
  rcases (by omega : j = 0 ∨ j = 1 ∨ j = 2 ∨ j = 3) with rfl | rfl | rfl | rfl <;> rfl
theorem ci_X11_120 : zcI RX11 yX4_init cX4_init 5 120 4 := ⟨hk_tq3 33 (by decide +kernel) (by decide +kernel), hk_tq3 31 (by decide +kernel) (by decide +kernel), hk_tq1 18 (by decide +kernel) (by decide +kernel), ⟨by decide, by decide, by decide +kernel⟩, hk_tq3 32 (by decide +kernel) (by decide +kernel), rfl⟩
theorem ck_X11_71 : zcV RX11 RJx4a65c yJx4a65c_add_9ea2d cJx4a65c_add_9ea2d 2 (some .boolean) 71 1 := ⟨hk_tq2 137 (by decide +kernel) (by decide +kernel), hk_tq2 134 (by decide +kernel) (by decide +kernel), hk_tq1 5 (by decide +kernel) (by decide +kernel), ⟨by decide, by decide, by decide +kernel⟩, hk_tq2 135 (by decide +kernel) (by decide +kernel), hk_tq2 136 (by decide +kernel) (by decide +kernel)⟩
theorem ck_X11_115 : zcS RX11 yX11_isNetwork cX11_isNetwork 1 (some .boolean) 115 1 := ⟨hk_tq3 28 (by decide +kernel) (by decide +kernel), hk_tq3 26 (by decide +kernel) (by decide +kernel), hk_tq1 1 (by decide +kernel) (by decide +kernel), ⟨by decide, by decide, by decide +kernel⟩, hk_tq3 27 (by decide +kernel) (by decide +kernel)⟩
set_option maxRecDepth 100000 in
set_option maxHeartbeats 4000000 in
theorem s_X11_join (l : Launch) {D : va_G} {ar : Nat → ClassId} {B : Nat → Prop} {b n : Nat} {w0 : zcW} {o : olP} (A : Nat → Int) (τ : Nat → Nat → Int) (st : Int) (nw : Int) (fd : Int) (hA : ∀ i, inI (A i)) (hR : Rel9 ar b w0 A τ) (hc : cn A) (r_st : inI st) (r_nw : inI nw) (r_fd : inI fd) (hI : lsq9 ar b w0 n o.2.1 (τ 6)) (hn : b + 47 ≤ n) (he0 : o.2.1 < b) (hB : ∀ q, B q → b ≤ q) (hfree : ∀ a, n ≤ a → w0 a = none) : zo_M l D ar B o yX11_join cX11_join 4 (some .boolean) 7 261 2 64 [.ref b, .int (iz st), .int (iz nw), .int (iz fd)] (cw ar b τ w0) n (fun r' w' n' => (¬ ok_join A st nw fd ∧ r' = some (.int (iz 0)) ∧ w' = cw ar b τ w0 ∧ n' = n) ∨ (ok_join A st nw fd ∧ r' = some (.int (iz 1)) ∧ ∃ (e9 N9 : Nat) (f9 : Nat → Option Nat) (m9 : Int) (w9 : zcW), adP ar b τ w0 n o.2.1 6 (A 3).toNat (.inr (5, [.int (iz st), .int (iz nw), .int (iz fd), .int (iz (A 8))])) e9 N9 f9 w9 n' ∧ w' = cw ar b (sA τ 6 (lv9 m9 ((e9 : Nat) : Int) ((((A 3).toNat : Nat) : Int) + 1))) w9)) := by
  refine zo_start (own := RX11) (by decide +kernel) rfl (Nat.le_of_ble_eq_true rfl) ?_
  intro p e s m args below meth c C K O hz hr hlk hnam
  have zl6 := hR.l6.1
  have zi := hR.i
  unfold rlI at zi
  refine hv_aload_n C 0 0 dX11_join_0 rfl rfl ?_
  refine zc_get C K (v := .ref (b + 1)) 0 rfl hu_12 (by decide) cw_0 rfl fl_X11_10 rfl dX11_join_1 ?_
  refine zc_get C K (v := .ref (b + 6)) 5 rfl hu_9 (by decide) (cw_at 1 rfl) rfl fl_X11_109 rfl dX11_join_4 ?_
  refine zt_callV [] [] C K (cw_at 6 rfl) rfl (k_Jx4a65c_size_8abf5 l 6 τ  rfl) ck_X11_52 (by decide) ⟨Nat.zero_le _, Nat.zero_le _⟩ rfl (Nat.le_of_ble_eq_true rfl) dX11_join_7 ?_
  refine hv_as ((τ 6 2)) rfl ?_
  refine hv_nm (fun x1 ex1 => ?_)
  have rx1 : inI x1 := by rw [ex1]; exact (by have z := hA 3; omega)
  refine hv_bipush C dX11_join_10 (by decide) ?_
  refine hv_icmp_ge C 42 dX11_join_12 (by decide) (by omega) (by omega) (fun h12 => ?_) (fun h12 => ?_)
  · skip
    refine hv_iconst C dX11_join_42 ?_
    refine hv_widen 2 64 (by decide) (by decide) ?_; exact zc_zret C hr hlk (v := false) rfl (Or.inl ⟨by omega, rfl, rfl, rfl⟩) dX11_join_43
  · skip
    refine hv_aload_n C 0 0 dX11_join_15 rfl rfl ?_
    refine hv_iload_n C 1 1 dX11_join_16 rfl rfl ?_
    refine zt_callV [.int (iz st)] [] C K cw_0 rfl (k_X11_isStation l A τ st hA hR (by omega) hc) ck_X11_112 (by decide) ⟨Nat.zero_le _, Nat.zero_le _⟩ rfl (Nat.le_of_ble_eq_true rfl) dX11_join_17 ?_
    refine hv_as (xb (decide (0 ≤ st ∧ st ≤ A 2 - 1))) rfl ?_
    refine hv_dif_eq C 42 dX11_join_20 (by decide)  (fun h20 => ?_) (fun h20 => ?_)
    · skip
      refine hv_iconst C dX11_join_42 ?_
      refine hv_widen 2 64 (by decide) (by decide) ?_; exact zc_zret C hr hlk (v := false) rfl (Or.inl ⟨by omega, rfl, rfl, rfl⟩) dX11_join_43
    · skip
      refine hv_iload_n C 2 2 dX11_join_23 rfl rfl ?_
      refine hv_iconst C dX11_join_24 ?_
      refine hv_icmp_eq C 35 dX11_join_25 (by decide) (by omega) (by omega) (fun h25 => ?_) (fun h25 => ?_)
      · skip
        refine hv_iload_n C 3 3 dX11_join_35 rfl rfl ?_
        refine zt_callS [.int (iz fd)] [] C K (k_X11_isDay l  τ fd (by omega)) ck_X11_86 (by decide) ⟨Nat.zero_le _, Nat.zero_le _⟩ rfl (Nat.le_of_ble_eq_true rfl) dX11_join_36 ?_
        refine hv_as (xb (decide (0 ≤ fd ∧ fd ≤ 199))) rfl ?_
        refine hv_dif_ne C 44 dX11_join_39 (by decide)  (fun h39 => ?_) (fun h39 => ?_)
        · skip
          refine hv_aload_n C 0 0 dX11_join_44 rfl rfl ?_
          refine zc_get C K (v := .ref (b + 1)) 0 rfl hu_12 (by decide) cw_0 rfl fl_X11_10 rfl dX11_join_45 ?_
          refine zc_get C K (v := .ref (b + 6)) 5 rfl hu_9 (by decide) (cw_at 1 rfl) rfl fl_X11_109 rfl dX11_join_48 ?_
          refine zg_new (ci := 5) C K [.int (iz 0), .int (iz 0), .int (iz 0), .int (iz 0)] rfl hu_5 tyX4 tyX4_ok cl_X11_118 is_X4 it_X4 (df_X4) (by decide) dX11_join_51 (n2 := n + 1) rfl ?_
          refine hv_dup C dX11_join_54 rfl ?_
          refine hv_iload_n C 1 1 dX11_join_55 rfl rfl ?_
          refine hv_iload_n C 2 2 dX11_join_56 rfl rfl ?_
          refine hv_iload_n C 3 3 dX11_join_57 rfl rfl ?_
          refine hv_aload_n C 0 0 dX11_join_58 rfl rfl ?_
          refine zc_get C K (v := .ref (b + 1)) 0 rfl hu_12 (by decide) (zg_ne (by omega) cw_0) rfl fl_X11_10 rfl dX11_join_59 ?_
          refine zc_get C K (v := .int (iz (τ 1 8))) 8 rfl hu_9 (by decide) (zg_ne (by omega) (cw_at 1 rfl)) rfl fl_X11_103 rfl dX11_join_62 ?_
          refine hv_nm (fun x2 ex2 => ?_)
          have rx2 : inI x2 := by rw [ex2]; exact (by have z := hA 8; omega)
          refine hv_as ((A 8)) (by omega) ?_
          refine zg_callI [.int (iz st), .int (iz nw), .int (iz fd), .int (iz (A 8))] [.ref n, .ref (b + 6)] C K (g_X4_init l st nw fd (A 8) (by omega) zg_at) ci_X11_120 (by decide) (by decide) rfl (Nat.le_of_ble_eq_true rfl) dX11_join_65 (w2 := (zc_u (cw ar b τ w0) n (.inr (5, [.int (iz st), .int (iz nw), .int (iz fd), .int (iz (A 8))])))) (n2 := n + 1) (fun r' w' n' h => ⟨h.1, h.2.1.trans zg_uu, h.2.2⟩) ?_
          refine zl_add 6 (A 3).toNat C K O isl_6 hI (by omega) (by omega) hn he0 hB hfree (by rfl) (by decide +kernel) (by rfl) ck_X11_71 (by decide) (by decide) (Nat.le_of_ble_eq_true rfl) dX11_join_68 (fun e9 N9 f9 m9 w9 n9 hP => ?_)
          refine hv_pop C dX11_join_71 rfl ?_
          refine hv_iconst C dX11_join_72 ?_
          refine hv_widen 2 64 (by decide) (by decide) ?_; exact zc_zret C hr hlk (v := true) rfl (Or.inr ⟨by omega, rfl, e9, N9, f9, m9, w9, hP, rfl⟩) dX11_join_73
        · skip
          refine hv_iconst C dX11_join_42 ?_
          refine hv_widen 2 64 (by decide) (by decide) ?_; exact zc_zret C hr hlk (v := false) rfl (Or.inl ⟨by omega, rfl, rfl, rfl⟩) dX11_join_43
      · skip
        refine hv_iload_n C 2 2 dX11_join_28 rfl rfl ?_
        refine zt_callS [.int (iz nw)] [] C K (k_X11_isNetwork l  τ nw (by omega)) ck_X11_115 (by decide) ⟨Nat.zero_le _, Nat.zero_le _⟩ rfl (Nat.le_of_ble_eq_true rfl) dX11_join_29 ?_
        refine hv_as (xb (decide (0 ≤ nw ∧ nw ≤ 2))) rfl ?_
        refine hv_dif_eq C 42 dX11_join_32 (by decide)  (fun h32 => ?_) (fun h32 => ?_)
        · skip
          refine hv_iconst C dX11_join_42 ?_
          refine hv_widen 2 64 (by decide) (by decide) ?_; exact zc_zret C hr hlk (v := false) rfl (Or.inl ⟨by omega, rfl, rfl, rfl⟩) dX11_join_43
        · skip
          refine hv_iload_n C 3 3 dX11_join_35 rfl rfl ?_
          refine zt_callS [.int (iz fd)] [] C K (k_X11_isDay l  τ fd (by omega)) ck_X11_86 (by decide) ⟨Nat.zero_le _, Nat.zero_le _⟩ rfl (Nat.le_of_ble_eq_true rfl) dX11_join_36 ?_
          refine hv_as (xb (decide (0 ≤ fd ∧ fd ≤ 199))) rfl ?_
          refine hv_dif_ne C 44 dX11_join_39 (by decide)  (fun h39 => ?_) (fun h39 => ?_)
          · skip
            refine hv_aload_n C 0 0 dX11_join_44 rfl rfl ?_
            refine zc_get C K (v := .ref (b + 1)) 0 rfl hu_12 (by decide) cw_0 rfl fl_X11_10 rfl dX11_join_45 ?_
            refine zc_get C K (v := .ref (b + 6)) 5 rfl hu_9 (by decide) (cw_at 1 rfl) rfl fl_X11_109 rfl dX11_join_48 ?_
            refine zg_new (ci := 5) C K [.int (iz 0), .int (iz 0), .int (iz 0), .int (iz 0)] rfl hu_5 tyX4 tyX4_ok cl_X11_118 is_X4 it_X4 (df_X4) (by decide) dX11_join_51 (n2 := n + 1) rfl ?_
            refine hv_dup C dX11_join_54 rfl ?_
            refine hv_iload_n C 1 1 dX11_join_55 rfl rfl ?_
            refine hv_iload_n C 2 2 dX11_join_56 rfl rfl ?_
            refine hv_iload_n C 3 3 dX11_join_57 rfl rfl ?_
            refine hv_aload_n C 0 0 dX11_join_58 rfl rfl ?_
            refine zc_get C K (v := .ref (b + 1)) 0 rfl hu_12 (by decide) (zg_ne (by omega) cw_0) rfl fl_X11_10 rfl dX11_join_59 ?_
            refine zc_get C K (v := .int (iz (τ 1 8))) 8 rfl hu_9 (by decide) (zg_ne (by omega) (cw_at 1 rfl)) rfl fl_X11_103 rfl dX11_join_62 ?_
            refine hv_nm (fun x3 ex3 => ?_)
            have rx3 : inI x3 := by rw [ex3]; exact (by have z := hA 8; omega)
            refine hv_as ((A 8)) (by omega) ?_
            refine zg_callI [.int (iz st), .int (iz nw), .int (iz fd), .int (iz (A 8))] [.ref n, .ref (b + 6)] C K (g_X4_init l st nw fd (A 8) (by omega) zg_at) ci_X11_120 (by decide) (by decide) rfl (Nat.le_of_ble_eq_true rfl) dX11_join_65 (w2 := (zc_u (cw ar b τ w0) n (.inr (5, [.int (iz st), .int (iz nw), .int (iz fd), .int (iz (A 8))])))) (n2 := n + 1) (fun r' w' n' h => ⟨h.1, h.2.1.trans zg_uu, h.2.2⟩) ?_
            refine zl_add 6 (A 3).toNat C K O isl_6 hI (by omega) (by omega) hn he0 hB hfree (by rfl) (by decide +kernel) (by rfl) ck_X11_71 (by decide) (by decide) (Nat.le_of_ble_eq_true rfl) dX11_join_68 (fun e9 N9 f9 m9 w9 n9 hP => ?_)
            refine hv_pop C dX11_join_71 rfl ?_
            refine hv_iconst C dX11_join_72 ?_
            refine hv_widen 2 64 (by decide) (by decide) ?_; exact zc_zret C hr hlk (v := true) rfl (Or.inr ⟨by omega, rfl, e9, N9, f9, m9, w9, hP, rfl⟩) dX11_join_73
          · skip
            refine hv_iconst C dX11_join_42 ?_
            refine hv_widen 2 64 (by decide) (by decide) ?_; exact zc_zret C hr hlk (v := false) rfl (Or.inl ⟨by omega, rfl, rfl, rfl⟩) dX11_join_43
theorem dX11_wire_0 : decode cX11_wire 0 = .ok (.aload_n 0, 1) := by decide +kernel
theorem dX11_wire_1 : decode cX11_wire 1 = .ok (.getfield 10, 3) := by decide +kernel
theorem dX11_wire_4 : decode cX11_wire 4 = .ok (.getfield 48, 3) := by decide +kernel
theorem dX11_wire_7 : decode cX11_wire 7 = .ok (.invokevirtual 52, 3) := by decide +kernel
theorem dX11_wire_10 : decode cX11_wire 10 = .ok (.bipush 12, 2) := by decide +kernel
theorem dX11_wire_12 : decode cX11_wire 12 = .ok (.if_icmp .ge 45, 3) := by decide +kernel
theorem dX11_wire_15 : decode cX11_wire 15 = .ok (.aload_n 0, 1) := by decide +kernel
theorem dX11_wire_16 : decode cX11_wire 16 = .ok (.iload_n 1, 1) := by decide +kernel
theorem dX11_wire_17 : decode cX11_wire 17 = .ok (.invokevirtual 58, 3) := by decide +kernel
theorem dX11_wire_20 : decode cX11_wire 20 = .ok (.ifCond .eq 37, 3) := by decide +kernel
theorem dX11_wire_23 : decode cX11_wire 23 = .ok (.aload_n 0, 1) := by decide +kernel
theorem dX11_wire_24 : decode cX11_wire 24 = .ok (.iload_n 2, 1) := by decide +kernel
theorem dX11_wire_25 : decode cX11_wire 25 = .ok (.invokevirtual 58, 3) := by decide +kernel
theorem dX11_wire_28 : decode cX11_wire 28 = .ok (.ifCond .eq 29, 3) := by decide +kernel
theorem dX11_wire_31 : decode cX11_wire 31 = .ok (.iload_n 1, 1) := by decide +kernel
theorem dX11_wire_32 : decode cX11_wire 32 = .ok (.iload_n 2, 1) := by decide +kernel
theorem dX11_wire_33 : decode cX11_wire 33 = .ok (.if_icmp .eq 24, 3) := by decide +kernel
theorem dX11_wire_36 : decode cX11_wire 36 = .ok (.iload_n 3, 1) := by decide +kernel
theorem dX11_wire_37 : decode cX11_wire 37 = .ok (.iconst 1, 1) := by decide +kernel
theorem dX11_wire_38 : decode cX11_wire 38 = .ok (.sipush 999, 3) := by decide +kernel
theorem dX11_wire_41 : decode cX11_wire 41 = .ok (.invokestatic 62, 3) := by decide +kernel
theorem dX11_wire_44 : decode cX11_wire 44 = .ok (.ifCond .eq 13, 3) := by decide +kernel
theorem dX11_wire_47 : decode cX11_wire 47 = .ok (.iload 4, 2) := by decide +kernel
theorem dX11_wire_49 : decode cX11_wire 49 = .ok (.iconst 1, 1) := by decide +kernel
theorem dX11_wire_50 : decode cX11_wire 50 = .ok (.iconst 3, 1) := by decide +kernel
theorem dX11_wire_51 : decode cX11_wire 51 = .ok (.invokestatic 62, 3) := by decide +kernel
theorem dX11_wire_54 : decode cX11_wire 54 = .ok (.ifCond .ne 5, 3) := by decide +kernel
theorem dX11_wire_57 : decode cX11_wire 57 = .ok (.iconst (-1), 1) := by decide +kernel
theorem dX11_wire_58 : decode cX11_wire 58 = .ok (.ireturn, 1) := by decide +kernel
theorem dX11_wire_59 : decode cX11_wire 59 = .ok (.aload_n 0, 1) := by decide +kernel
theorem dX11_wire_60 : decode cX11_wire 60 = .ok (.getfield 10, 3) := by decide +kernel
theorem dX11_wire_63 : decode cX11_wire 63 = .ok (.getfield 48, 3) := by decide +kernel
theorem dX11_wire_66 : decode cX11_wire 66 = .ok (.new 66, 3) := by decide +kernel
theorem dX11_wire_69 : decode cX11_wire 69 = .ok (.dup, 1) := by decide +kernel
theorem dX11_wire_70 : decode cX11_wire 70 = .ok (.iload_n 1, 1) := by decide +kernel
theorem dX11_wire_71 : decode cX11_wire 71 = .ok (.iload_n 2, 1) := by decide +kernel
theorem dX11_wire_72 : decode cX11_wire 72 = .ok (.iload_n 3, 1) := by decide +kernel
theorem dX11_wire_73 : decode cX11_wire 73 = .ok (.iload 4, 2) := by decide +kernel
theorem dX11_wire_75 : decode cX11_wire 75 = .ok (.invokespecial 68, 3) := by decide +kernel
theorem dX11_wire_78 : decode cX11_wire 78 = .ok (.invokevirtual 71, 3) := by decide +kernel
theorem dX11_wire_81 : decode cX11_wire 81 = .ok (.pop, 1) := by decide +kernel
theorem dX11_wire_82 : decode cX11_wire 82 = .ok (.aload_n 0, 1) := by decide +kernel
theorem dX11_wire_83 : decode cX11_wire 83 = .ok (.getfield 10, 3) := by decide +kernel
theorem dX11_wire_86 : decode cX11_wire 86 = .ok (.getfield 48, 3) := by decide +kernel
theorem dX11_wire_89 : decode cX11_wire 89 = .ok (.invokevirtual 52, 3) := by decide +kernel
theorem dX11_wire_92 : decode cX11_wire 92 = .ok (.iconst 1, 1) := by decide +kernel
theorem dX11_wire_93 : decode cX11_wire 93 = .ok (.isub, 1) := by decide +kernel
theorem dX11_wire_94 : decode cX11_wire 94 = .ok (.ireturn, 1) := by decide +kernel
theorem ck_X11_58 : zcV RX11 RX11 yX11_isTown cX11_isTown 2 (some .boolean) 58 1 := ⟨hk_tq2 106 (by decide +kernel) (by decide +kernel), hk_tq2 103 (by decide +kernel) (by decide +kernel), hk_tq1 1 (by decide +kernel) (by decide +kernel), ⟨by decide, by decide, by decide +kernel⟩, hk_tq2 105 (by decide +kernel) (by decide +kernel), hk_s 0 (by decide +kernel) (by decide +kernel)⟩
theorem cl_X11_66 : Cond.classLink RX11 66 RX9 ∈ hk_tb := hk_tq2 110 (by decide +kernel) (by decide +kernel)
theorem is_X9 : Cond.instantiable RX9 4 ∈ hk_tb := hk_tq2 111 (by decide +kernel) (by decide +kernel)
theorem it_X9 : Cond.initialized RX9 ∈ hk_tb := hk_tq1 12 (by decide +kernel) (by decide +kernel)
theorem df_X9 : ∀ j, j < 4 → defaultValue (tyX9 j) = vp_V [.int (iz 0), .int (iz 0), .int (iz 0), .int (iz 0)] j := by
  intro j hj
  rcases (by omega : j = 0 ∨ j = 1 ∨ j = 2 ∨ j = 3) with rfl | rfl | rfl | rfl <;> rfl
theorem ci_X11_68 : zcI RX11 yX9_init cX9_init 5 68 4 := ⟨hk_tq2 114 (by decide +kernel) (by decide +kernel), hk_tq2 112 (by decide +kernel) (by decide +kernel), hk_tq1 12 (by decide +kernel) (by decide +kernel), ⟨by decide, by decide, by decide +kernel⟩, hk_tq2 113 (by decide +kernel) (by decide +kernel), rfl⟩
set_option maxRecDepth 100000 in
set_option maxHeartbeats 4000000 in
theorem s_X11_wire (l : Launch) {D : va_G} {ar : Nat → ClassId} {B : Nat → Prop} {b n : Nat} {w0 : zcW} {o : olP} (A : Nat → Int) (τ : Nat → Nat → Int) (ta : Int) (tz : Int) (mi : Int) (cr : Int) (hA : ∀ i, inI (A i)) (hR : Rel9 ar b w0 A τ) (hc : cn A) (r_ta : inI ta) (r_tz : inI tz) (r_mi : inI mi) (r_cr : inI cr) (hI : lsq9 ar b w0 n o.2.1 (τ 2)) (hn : b + 47 ≤ n) (he0 : o.2.1 < b) (hB : ∀ q, B q → b ≤ q) (hfree : ∀ a, n ≤ a → w0 a = none) : zo_M l D ar B o yX11_wire cX11_wire 5 (some .int) 7 261 2 64 [.ref b, .int (iz ta), .int (iz tz), .int (iz mi), .int (iz cr)] (cw ar b τ w0) n (fun r' w' n' => (¬ ok_wire A ta tz mi cr ∧ r' = some (.int (iz (-1))) ∧ w' = cw ar b τ w0 ∧ n' = n) ∨ (ok_wire A ta tz mi cr ∧ r' = some (.int (iz (A 1))) ∧ ∃ (e9 N9 : Nat) (f9 : Nat → Option Nat) (m9 : Int) (w9 : zcW), adP ar b τ w0 n o.2.1 2 (A 1).toNat (.inr (10, [.int (iz ta), .int (iz tz), .int (iz mi), .int (iz cr)])) e9 N9 f9 w9 n' ∧ w' = cw ar b (sA τ 2 (lv9 m9 ((e9 : Nat) : Int) ((((A 1).toNat : Nat) : Int) + 1))) w9)) := by
  refine zo_start (own := RX11) (by decide +kernel) rfl (Nat.le_of_ble_eq_true rfl) ?_
  intro p e s m args below meth c C K O hz hr hlk hnam
  have zl2 := hR.l2.1
  have zi := hR.i
  unfold rlI at zi
  refine hv_aload_n C 0 0 dX11_wire_0 rfl rfl ?_
  refine zc_get C K (v := .ref (b + 1)) 0 rfl hu_12 (by decide) cw_0 rfl fl_X11_10 rfl dX11_wire_1 ?_
  refine zc_get C K (v := .ref (b + 2)) 1 rfl hu_9 (by decide) (cw_at 1 rfl) rfl fl_X11_48 rfl dX11_wire_4 ?_
  refine zt_callV [] [] C K (cw_at 2 rfl) rfl (k_Jx4a65c_size_8abf5 l 2 τ  rfl) ck_X11_52 (by decide) ⟨Nat.zero_le _, Nat.zero_le _⟩ rfl (Nat.le_of_ble_eq_true rfl) dX11_wire_7 ?_
  refine hv_as ((τ 2 2)) rfl ?_
  refine hv_nm (fun x1 ex1 => ?_)
  have rx1 : inI x1 := by rw [ex1]; exact (by have z := hA 1; omega)
  refine hv_bipush C dX11_wire_10 (by decide) ?_
  refine hv_icmp_ge C 57 dX11_wire_12 (by decide) (by omega) (by omega) (fun h12 => ?_) (fun h12 => ?_)
  · skip
    refine hv_iconst C dX11_wire_57 ?_
    refine hv_widen 2 64 (by decide) (by decide) ?_; exact zc_iret C hr hlk (Or.inl ⟨by omega, rfl, rfl, rfl⟩) dX11_wire_58
  · skip
    refine hv_aload_n C 0 0 dX11_wire_15 rfl rfl ?_
    refine hv_iload_n C 1 1 dX11_wire_16 rfl rfl ?_
    refine zt_callV [.int (iz ta)] [] C K cw_0 rfl (k_X11_isTown l A τ ta hA hR (by omega) hc) ck_X11_58 (by decide) ⟨Nat.zero_le _, Nat.zero_le _⟩ rfl (Nat.le_of_ble_eq_true rfl) dX11_wire_17 ?_
    refine hv_as (xb (decide (0 ≤ ta ∧ ta ≤ A 0 - 1))) rfl ?_
    refine hv_dif_eq C 57 dX11_wire_20 (by decide)  (fun h20 => ?_) (fun h20 => ?_)
    · skip
      refine hv_iconst C dX11_wire_57 ?_
      refine hv_widen 2 64 (by decide) (by decide) ?_; exact zc_iret C hr hlk (Or.inl ⟨by omega, rfl, rfl, rfl⟩) dX11_wire_58
    · skip
      refine hv_aload_n C 0 0 dX11_wire_23 rfl rfl ?_
      refine hv_iload_n C 2 2 dX11_wire_24 rfl rfl ?_
      refine zt_callV [.int (iz tz)] [] C K cw_0 rfl (k_X11_isTown l A τ tz hA hR (by omega) hc) ck_X11_58 (by decide) ⟨Nat.zero_le _, Nat.zero_le _⟩ rfl (Nat.le_of_ble_eq_true rfl) dX11_wire_25 ?_
      refine hv_as (xb (decide (0 ≤ tz ∧ tz ≤ A 0 - 1))) rfl ?_
      refine hv_dif_eq C 57 dX11_wire_28 (by decide)  (fun h28 => ?_) (fun h28 => ?_)
      · skip
        refine hv_iconst C dX11_wire_57 ?_
        refine hv_widen 2 64 (by decide) (by decide) ?_; exact zc_iret C hr hlk (Or.inl ⟨by omega, rfl, rfl, rfl⟩) dX11_wire_58
      · skip
        refine hv_iload_n C 1 1 dX11_wire_31 rfl rfl ?_
        refine hv_iload_n C 2 2 dX11_wire_32 rfl rfl ?_
        refine hv_icmp_eq C 57 dX11_wire_33 (by decide) (by omega) (by omega) (fun h33 => ?_) (fun h33 => ?_)
        · skip
          refine hv_iconst C dX11_wire_57 ?_
          refine hv_widen 2 64 (by decide) (by decide) ?_; exact zc_iret C hr hlk (Or.inl ⟨by omega, rfl, rfl, rfl⟩) dX11_wire_58
        · skip
          refine hv_iload_n C 3 3 dX11_wire_36 rfl rfl ?_
          refine hv_iconst C dX11_wire_37 ?_
          refine hv_sipush C dX11_wire_38 (by decide) ?_
          refine zt_callS [.int (iz mi), .int (iz 1), .int (iz 999)] [] C K (k_X11_within l  τ mi 1 999 (by omega) (by omega) (by omega)) ck_X11_62 (by decide) ⟨Nat.zero_le _, Nat.zero_le _⟩ rfl (Nat.le_of_ble_eq_true rfl) dX11_wire_41 ?_
          refine hv_as (xb (decide (1 ≤ mi ∧ mi ≤ 999))) rfl ?_
          refine hv_dif_eq C 57 dX11_wire_44 (by decide)  (fun h44 => ?_) (fun h44 => ?_)
          · skip
            refine hv_iconst C dX11_wire_57 ?_
            refine hv_widen 2 64 (by decide) (by decide) ?_; exact zc_iret C hr hlk (Or.inl ⟨by omega, rfl, rfl, rfl⟩) dX11_wire_58
          · skip
            refine hv_iload C 4 4 dX11_wire_47 rfl ?_
            refine hv_iconst C dX11_wire_49 ?_
            refine hv_iconst C dX11_wire_50 ?_
            refine zt_callS [.int (iz cr), .int (iz 1), .int (iz 3)] [] C K (k_X11_within l  τ cr 1 3 (by omega) (by omega) (by omega)) ck_X11_62 (by decide) ⟨Nat.zero_le _, Nat.zero_le _⟩ rfl (Nat.le_of_ble_eq_true rfl) dX11_wire_51 ?_
            refine hv_as (xb (decide (1 ≤ cr ∧ cr ≤ 3))) rfl ?_
            refine hv_dif_ne C 59 dX11_wire_54 (by decide)  (fun h54 => ?_) (fun h54 => ?_)
            · skip
              refine hv_aload_n C 0 0 dX11_wire_59 rfl rfl ?_
              refine zc_get C K (v := .ref (b + 1)) 0 rfl hu_12 (by decide) cw_0 rfl fl_X11_10 rfl dX11_wire_60 ?_
              refine zc_get C K (v := .ref (b + 2)) 1 rfl hu_9 (by decide) (cw_at 1 rfl) rfl fl_X11_48 rfl dX11_wire_63 ?_
              refine zg_new (ci := 10) C K [.int (iz 0), .int (iz 0), .int (iz 0), .int (iz 0)] rfl hu_10 tyX9 tyX9_ok cl_X11_66 is_X9 it_X9 (df_X9) (by decide) dX11_wire_66 (n2 := n + 1) rfl ?_
              refine hv_dup C dX11_wire_69 rfl ?_
              refine hv_iload_n C 1 1 dX11_wire_70 rfl rfl ?_
              refine hv_iload_n C 2 2 dX11_wire_71 rfl rfl ?_
              refine hv_iload_n C 3 3 dX11_wire_72 rfl rfl ?_
              refine hv_iload C 4 4 dX11_wire_73 rfl ?_
              refine zg_callI [.int (iz ta), .int (iz tz), .int (iz mi), .int (iz cr)] [.ref n, .ref (b + 2)] C K (g_X9_init l ta tz mi cr (by omega) zg_at) ci_X11_68 (by decide) (by decide) rfl (Nat.le_of_ble_eq_true rfl) dX11_wire_75 (w2 := (zc_u (cw ar b τ w0) n (.inr (10, [.int (iz ta), .int (iz tz), .int (iz mi), .int (iz cr)])))) (n2 := n + 1) (fun r' w' n' h => ⟨h.1, h.2.1.trans zg_uu, h.2.2⟩) ?_
              refine zl_add 2 (A 1).toNat C K O isl_2 hI (by omega) (by omega) hn he0 hB hfree (by rfl) (by decide +kernel) (by rfl) ck_X11_71 (by decide) (by decide) (Nat.le_of_ble_eq_true rfl) dX11_wire_78 (fun e9 N9 f9 m9 w9 n9 hP => ?_)
              refine hv_pop C dX11_wire_81 rfl ?_
              refine hv_aload_n C 0 0 dX11_wire_82 rfl rfl ?_
              refine zc_get C K (v := .ref (b + 1)) 0 rfl hu_12 (by decide) cw_0 rfl fl_X11_10 rfl dX11_wire_83 ?_
              refine zc_get C K (v := .ref (b + 2)) 1 rfl hu_9 (by decide) (cw_at 1 rfl) rfl fl_X11_48 rfl dX11_wire_86 ?_
              refine zt_callV [] [] C K (cw_at 2 rfl) rfl (k_Jx4a65c_size_8abf5 l 2 (sA τ 2 (lv9 m9 ((e9 : Nat) : Int) ((((A 1).toNat : Nat) : Int) + 1)))  rfl) ck_X11_52 (by decide) (by decide) rfl (Nat.le_of_ble_eq_true rfl) dX11_wire_89 ?_
              refine hv_as (((lv9 m9 ((e9 : Nat) : Int) ((((A 1).toNat : Nat) : Int) + 1)) 2)) rfl ?_
              refine hv_as ((A 1 + 1)) (by show (((A 1).toNat : Nat) : Int) + 1 = A 1 + 1; omega) ?_
              refine hv_iconst C dX11_wire_92 ?_
              refine hv_isub C dX11_wire_93 ?_
              refine hv_widen 2 64 (by decide) (by decide) ?_; exact zc_iret C hr hlk (Or.inr ⟨by omega, (by exact congrArg (fun z9 => some (Value.int (iz z9))) (by omega)), e9, N9, f9, m9, w9, hP, rfl⟩) dX11_wire_94
            · skip
              refine hv_iconst C dX11_wire_57 ?_
              refine hv_widen 2 64 (by decide) (by decide) ?_; exact zc_iret C hr hlk (Or.inl ⟨by omega, rfl, rfl, rfl⟩) dX11_wire_58
theorem dX11_station_0 : decode cX11_station 0 = .ok (.aload_n 0, 1) := by decide +kernel
theorem dX11_station_1 : decode cX11_station 1 = .ok (.getfield 10, 3) := by decide +kernel
theorem dX11_station_4 : decode cX11_station 4 = .ok (.getfield 75, 3) := by decide +kernel
theorem dX11_station_7 : decode cX11_station 7 = .ok (.invokevirtual 52, 3) := by decide +kernel
theorem dX11_station_10 : decode cX11_station 10 = .ok (.bipush 8, 2) := by decide +kernel
theorem dX11_station_12 : decode cX11_station 12 = .ok (.if_icmp .ge 28, 3) := by decide +kernel
theorem dX11_station_15 : decode cX11_station 15 = .ok (.aload_n 0, 1) := by decide +kernel
theorem dX11_station_16 : decode cX11_station 16 = .ok (.iload_n 1, 1) := by decide +kernel
theorem dX11_station_17 : decode cX11_station 17 = .ok (.invokevirtual 58, 3) := by decide +kernel
theorem dX11_station_20 : decode cX11_station 20 = .ok (.ifCond .eq 20, 3) := by decide +kernel
theorem dX11_station_23 : decode cX11_station 23 = .ok (.iload_n 2, 1) := by decide +kernel
theorem dX11_station_24 : decode cX11_station 24 = .ok (.invokestatic 78, 3) := by decide +kernel
theorem dX11_station_27 : decode cX11_station 27 = .ok (.ifCond .eq 13, 3) := by decide +kernel
theorem dX11_station_30 : decode cX11_station 30 = .ok (.iload_n 3, 1) := by decide +kernel
theorem dX11_station_31 : decode cX11_station 31 = .ok (.iconst 1, 1) := by decide +kernel
theorem dX11_station_32 : decode cX11_station 32 = .ok (.bipush 99, 2) := by decide +kernel
theorem dX11_station_34 : decode cX11_station 34 = .ok (.invokestatic 62, 3) := by decide +kernel
theorem dX11_station_37 : decode cX11_station 37 = .ok (.ifCond .ne 5, 3) := by decide +kernel
theorem dX11_station_40 : decode cX11_station 40 = .ok (.iconst (-1), 1) := by decide +kernel
theorem dX11_station_41 : decode cX11_station 41 = .ok (.ireturn, 1) := by decide +kernel
theorem dX11_station_42 : decode cX11_station 42 = .ok (.aload_n 0, 1) := by decide +kernel
theorem dX11_station_43 : decode cX11_station 43 = .ok (.getfield 10, 3) := by decide +kernel
theorem dX11_station_46 : decode cX11_station 46 = .ok (.getfield 75, 3) := by decide +kernel
theorem dX11_station_49 : decode cX11_station 49 = .ok (.new 81, 3) := by decide +kernel
theorem dX11_station_52 : decode cX11_station 52 = .ok (.dup, 1) := by decide +kernel
theorem dX11_station_53 : decode cX11_station 53 = .ok (.iload_n 1, 1) := by decide +kernel
theorem dX11_station_54 : decode cX11_station 54 = .ok (.iload_n 2, 1) := by decide +kernel
theorem dX11_station_55 : decode cX11_station 55 = .ok (.iload_n 3, 1) := by decide +kernel
theorem dX11_station_56 : decode cX11_station 56 = .ok (.invokespecial 83, 3) := by decide +kernel
theorem dX11_station_59 : decode cX11_station 59 = .ok (.invokevirtual 71, 3) := by decide +kernel
theorem dX11_station_62 : decode cX11_station 62 = .ok (.pop, 1) := by decide +kernel
theorem dX11_station_63 : decode cX11_station 63 = .ok (.aload_n 0, 1) := by decide +kernel
theorem dX11_station_64 : decode cX11_station 64 = .ok (.getfield 10, 3) := by decide +kernel
theorem dX11_station_67 : decode cX11_station 67 = .ok (.getfield 75, 3) := by decide +kernel
theorem dX11_station_70 : decode cX11_station 70 = .ok (.invokevirtual 52, 3) := by decide +kernel
theorem dX11_station_73 : decode cX11_station 73 = .ok (.iconst 1, 1) := by decide +kernel
theorem dX11_station_74 : decode cX11_station 74 = .ok (.isub, 1) := by decide +kernel
theorem dX11_station_75 : decode cX11_station 75 = .ok (.ireturn, 1) := by decide +kernel
theorem cl_X11_81 : Cond.classLink RX11 81 RX7 ∈ hk_tb := hk_tq2 202 (by decide +kernel) (by decide +kernel)
theorem is_X7 : Cond.instantiable RX7 3 ∈ hk_tb := hk_tq2 203 (by decide +kernel) (by decide +kernel)
theorem it_X7 : Cond.initialized RX7 ∈ hk_tb := hk_tq1 17 (by decide +kernel) (by decide +kernel)
theorem df_X7 : ∀ j, j < 3 → defaultValue (tyX7 j) = vp_V [.int (iz 0), .int (iz 0), .int (iz 0)] j := by
  intro j hj
  rcases (by omega : j = 0 ∨ j = 1 ∨ j = 2) with rfl | rfl | rfl <;> rfl
theorem ci_X11_83 : zcI RX11 yX7_init cX7_init 4 83 3 := ⟨hk_tq2 206 (by decide +kernel) (by decide +kernel), hk_tq2 204 (by decide +kernel) (by decide +kernel), hk_tq1 17 (by decide +kernel) (by decide +kernel), ⟨by decide, by decide, by decide +kernel⟩, hk_tq2 205 (by decide +kernel) (by decide +kernel), rfl⟩
set_option maxRecDepth 100000 in
set_option maxHeartbeats 4000000 in
theorem s_X11_station (l : Launch) {D : va_G} {ar : Nat → ClassId} {B : Nat → Prop} {b n : Nat} {w0 : zcW} {o : olP} (A : Nat → Int) (τ : Nat → Nat → Int) (tw : Int) (zn : Int) (pw : Int) (hA : ∀ i, inI (A i)) (hR : Rel9 ar b w0 A τ) (hc : cn A) (r_tw : inI tw) (r_zn : inI zn) (r_pw : inI pw) (hI : lsq9 ar b w0 n o.2.1 (τ 3)) (hn : b + 47 ≤ n) (he0 : o.2.1 < b) (hB : ∀ q, B q → b ≤ q) (hfree : ∀ a, n ≤ a → w0 a = none) : zo_M l D ar B o yX11_station cX11_station 4 (some .int) 7 261 2 63 [.ref b, .int (iz tw), .int (iz zn), .int (iz pw)] (cw ar b τ w0) n (fun r' w' n' => (¬ ok_station A tw zn pw ∧ r' = some (.int (iz (-1))) ∧ w' = cw ar b τ w0 ∧ n' = n) ∨ (ok_station A tw zn pw ∧ r' = some (.int (iz (A 2))) ∧ ∃ (e9 N9 : Nat) (f9 : Nat → Option Nat) (m9 : Int) (w9 : zcW), adP ar b τ w0 n o.2.1 3 (A 2).toNat (.inr (8, [.int (iz tw), .int (iz zn), .int (iz pw)])) e9 N9 f9 w9 n' ∧ w' = cw ar b (sA τ 3 (lv9 m9 ((e9 : Nat) : Int) ((((A 2).toNat : Nat) : Int) + 1))) w9)) := by
  refine zo_start (own := RX11) (by decide +kernel) rfl (Nat.le_of_ble_eq_true rfl) ?_
  intro p e s m args below meth c C K O hz hr hlk hnam
  have zl3 := hR.l3.1
  have zi := hR.i
  unfold rlI at zi
  refine hv_aload_n C 0 0 dX11_station_0 rfl rfl ?_
  refine zc_get C K (v := .ref (b + 1)) 0 rfl hu_12 (by decide) cw_0 rfl fl_X11_10 rfl dX11_station_1 ?_
  refine zc_get C K (v := .ref (b + 3)) 2 rfl hu_9 (by decide) (cw_at 1 rfl) rfl fl_X11_75 rfl dX11_station_4 ?_
  refine zt_callV [] [] C K (cw_at 3 rfl) rfl (k_Jx4a65c_size_8abf5 l 3 τ  rfl) ck_X11_52 (by decide) ⟨Nat.zero_le _, Nat.zero_le _⟩ rfl (Nat.le_of_ble_eq_true rfl) dX11_station_7 ?_
  refine hv_as ((τ 3 2)) rfl ?_
  refine hv_nm (fun x1 ex1 => ?_)
  have rx1 : inI x1 := by rw [ex1]; exact (by have z := hA 2; omega)
  refine hv_bipush C dX11_station_10 (by decide) ?_
  refine hv_icmp_ge C 40 dX11_station_12 (by decide) (by omega) (by omega) (fun h12 => ?_) (fun h12 => ?_)
  · skip
    refine hv_iconst C dX11_station_40 ?_
    refine hv_widen 2 63 (by decide) (by decide) ?_; exact zc_iret C hr hlk (Or.inl ⟨by omega, rfl, rfl, rfl⟩) dX11_station_41
  · skip
    refine hv_aload_n C 0 0 dX11_station_15 rfl rfl ?_
    refine hv_iload_n C 1 1 dX11_station_16 rfl rfl ?_
    refine zt_callV [.int (iz tw)] [] C K cw_0 rfl (k_X11_isTown l A τ tw hA hR (by omega) hc) ck_X11_58 (by decide) ⟨Nat.zero_le _, Nat.zero_le _⟩ rfl (Nat.le_of_ble_eq_true rfl) dX11_station_17 ?_
    refine hv_as (xb (decide (0 ≤ tw ∧ tw ≤ A 0 - 1))) rfl ?_
    refine hv_dif_eq C 40 dX11_station_20 (by decide)  (fun h20 => ?_) (fun h20 => ?_)
    · skip
      refine hv_iconst C dX11_station_40 ?_
      refine hv_widen 2 63 (by decide) (by decide) ?_; exact zc_iret C hr hlk (Or.inl ⟨by omega, rfl, rfl, rfl⟩) dX11_station_41
    · skip
      refine hv_iload_n C 2 2 dX11_station_23 rfl rfl ?_
      refine zt_callS [.int (iz zn)] [] C K (k_X11_isZone l  τ zn (by omega)) ck_X11_78 (by decide) ⟨Nat.zero_le _, Nat.zero_le _⟩ rfl (Nat.le_of_ble_eq_true rfl) dX11_station_24 ?_
      refine hv_as (xb (decide (0 ≤ zn ∧ zn ≤ 3))) rfl ?_
      refine hv_dif_eq C 40 dX11_station_27 (by decide)  (fun h27 => ?_) (fun h27 => ?_)
      · skip
        refine hv_iconst C dX11_station_40 ?_
        refine hv_widen 2 63 (by decide) (by decide) ?_; exact zc_iret C hr hlk (Or.inl ⟨by omega, rfl, rfl, rfl⟩) dX11_station_41
      · skip
        refine hv_iload_n C 3 3 dX11_station_30 rfl rfl ?_
        refine hv_iconst C dX11_station_31 ?_
        refine hv_bipush C dX11_station_32 (by decide) ?_
        refine zt_callS [.int (iz pw), .int (iz 1), .int (iz 99)] [] C K (k_X11_within l  τ pw 1 99 (by omega) (by omega) (by omega)) ck_X11_62 (by decide) ⟨Nat.zero_le _, Nat.zero_le _⟩ rfl (Nat.le_of_ble_eq_true rfl) dX11_station_34 ?_
        refine hv_as (xb (decide (1 ≤ pw ∧ pw ≤ 99))) rfl ?_
        refine hv_dif_ne C 42 dX11_station_37 (by decide)  (fun h37 => ?_) (fun h37 => ?_)
        · skip
          refine hv_aload_n C 0 0 dX11_station_42 rfl rfl ?_
          refine zc_get C K (v := .ref (b + 1)) 0 rfl hu_12 (by decide) cw_0 rfl fl_X11_10 rfl dX11_station_43 ?_
          refine zc_get C K (v := .ref (b + 3)) 2 rfl hu_9 (by decide) (cw_at 1 rfl) rfl fl_X11_75 rfl dX11_station_46 ?_
          refine zg_new (ci := 8) C K [.int (iz 0), .int (iz 0), .int (iz 0)] rfl hu_8 tyX7 tyX7_ok cl_X11_81 is_X7 it_X7 (df_X7) (by decide) dX11_station_49 (n2 := n + 1) rfl ?_
          refine hv_dup C dX11_station_52 rfl ?_
          refine hv_iload_n C 1 1 dX11_station_53 rfl rfl ?_
          refine hv_iload_n C 2 2 dX11_station_54 rfl rfl ?_
          refine hv_iload_n C 3 3 dX11_station_55 rfl rfl ?_
          refine zg_callI [.int (iz tw), .int (iz zn), .int (iz pw)] [.ref n, .ref (b + 3)] C K (g_X7_init l tw zn pw (by omega) zg_at) ci_X11_83 (by decide) (by decide) rfl (Nat.le_of_ble_eq_true rfl) dX11_station_56 (w2 := (zc_u (cw ar b τ w0) n (.inr (8, [.int (iz tw), .int (iz zn), .int (iz pw)])))) (n2 := n + 1) (fun r' w' n' h => ⟨h.1, h.2.1.trans zg_uu, h.2.2⟩) ?_
          refine zl_add 3 (A 2).toNat C K O isl_3 hI (by omega) (by omega) hn he0 hB hfree (by rfl) (by decide +kernel) (by rfl) ck_X11_71 (by decide) (by decide) (Nat.le_of_ble_eq_true rfl) dX11_station_59 (fun e9 N9 f9 m9 w9 n9 hP => ?_)
          refine hv_pop C dX11_station_62 rfl ?_
          refine hv_aload_n C 0 0 dX11_station_63 rfl rfl ?_
          refine zc_get C K (v := .ref (b + 1)) 0 rfl hu_12 (by decide) cw_0 rfl fl_X11_10 rfl dX11_station_64 ?_
          refine zc_get C K (v := .ref (b + 3)) 2 rfl hu_9 (by decide) (cw_at 1 rfl) rfl fl_X11_75 rfl dX11_station_67 ?_
          refine zt_callV [] [] C K (cw_at 3 rfl) rfl (k_Jx4a65c_size_8abf5 l 3 (sA τ 3 (lv9 m9 ((e9 : Nat) : Int) ((((A 2).toNat : Nat) : Int) + 1)))  rfl) ck_X11_52 (by decide) (by decide) rfl (Nat.le_of_ble_eq_true rfl) dX11_station_70 ?_
          refine hv_as (((lv9 m9 ((e9 : Nat) : Int) ((((A 2).toNat : Nat) : Int) + 1)) 2)) rfl ?_
          refine hv_as ((A 2 + 1)) (by show (((A 2).toNat : Nat) : Int) + 1 = A 2 + 1; omega) ?_
          refine hv_iconst C dX11_station_73 ?_
          refine hv_isub C dX11_station_74 ?_
          refine hv_widen 2 63 (by decide) (by decide) ?_; exact zc_iret C hr hlk (Or.inr ⟨by omega, (by exact congrArg (fun z9 => some (Value.int (iz z9))) (by omega)), e9, N9, f9, m9, w9, hP, rfl⟩) dX11_station_75
        · skip
          refine hv_iconst C dX11_station_40 ?_
          refine hv_widen 2 63 (by decide) (by decide) ?_; exact zc_iret C hr hlk (Or.inl ⟨by omega, rfl, rfl, rfl⟩) dX11_station_41
theorem dX11_cut_0 : decode cX11_cut 0 = .ok (.aload_n 0, 1) := by decide +kernel
theorem dX11_cut_1 : decode cX11_cut 1 = .ok (.getfield 10, 3) := by decide +kernel
theorem dX11_cut_4 : decode cX11_cut 4 = .ok (.getfield 135, 3) := by decide +kernel
theorem dX11_cut_7 : decode cX11_cut 7 = .ok (.invokevirtual 52, 3) := by decide +kernel
theorem dX11_cut_10 : decode cX11_cut 10 = .ok (.bipush 24, 2) := by decide +kernel
theorem dX11_cut_12 : decode cX11_cut 12 = .ok (.if_icmp .ge 55, 3) := by decide +kernel
theorem dX11_cut_15 : decode cX11_cut 15 = .ok (.iload_n 1, 1) := by decide +kernel
theorem dX11_cut_16 : decode cX11_cut 16 = .ok (.iconst (-1), 1) := by decide +kernel
theorem dX11_cut_17 : decode cX11_cut 17 = .ok (.if_icmp .eq 11, 3) := by decide +kernel
theorem dX11_cut_20 : decode cX11_cut 20 = .ok (.aload_n 0, 1) := by decide +kernel
theorem dX11_cut_21 : decode cX11_cut 21 = .ok (.iload_n 1, 1) := by decide +kernel
theorem dX11_cut_22 : decode cX11_cut 22 = .ok (.invokevirtual 112, 3) := by decide +kernel
theorem dX11_cut_25 : decode cX11_cut 25 = .ok (.ifCond .eq 42, 3) := by decide +kernel
theorem dX11_cut_28 : decode cX11_cut 28 = .ok (.iload_n 2, 1) := by decide +kernel
theorem dX11_cut_29 : decode cX11_cut 29 = .ok (.invokestatic 86, 3) := by decide +kernel
theorem dX11_cut_32 : decode cX11_cut 32 = .ok (.ifCond .eq 35, 3) := by decide +kernel
theorem dX11_cut_35 : decode cX11_cut 35 = .ok (.iload_n 3, 1) := by decide +kernel
theorem dX11_cut_36 : decode cX11_cut 36 = .ok (.invokestatic 93, 3) := by decide +kernel
theorem dX11_cut_39 : decode cX11_cut 39 = .ok (.ifCond .eq 28, 3) := by decide +kernel
theorem dX11_cut_42 : decode cX11_cut 42 = .ok (.iload 4, 2) := by decide +kernel
theorem dX11_cut_44 : decode cX11_cut 44 = .ok (.invokestatic 93, 3) := by decide +kernel
theorem dX11_cut_47 : decode cX11_cut 47 = .ok (.ifCond .eq 20, 3) := by decide +kernel
theorem dX11_cut_50 : decode cX11_cut 50 = .ok (.iload_n 3, 1) := by decide +kernel
theorem dX11_cut_51 : decode cX11_cut 51 = .ok (.iload 4, 2) := by decide +kernel
theorem dX11_cut_53 : decode cX11_cut 53 = .ok (.if_icmp .gt 14, 3) := by decide +kernel
theorem dX11_cut_56 : decode cX11_cut 56 = .ok (.iload 5, 2) := by decide +kernel
theorem dX11_cut_58 : decode cX11_cut 58 = .ok (.iconst 0, 1) := by decide +kernel
theorem dX11_cut_59 : decode cX11_cut 59 = .ok (.bipush 9, 2) := by decide +kernel
theorem dX11_cut_61 : decode cX11_cut 61 = .ok (.invokestatic 62, 3) := by decide +kernel
theorem dX11_cut_64 : decode cX11_cut 64 = .ok (.ifCond .ne 5, 3) := by decide +kernel
theorem dX11_cut_67 : decode cX11_cut 67 = .ok (.iconst (-1), 1) := by decide +kernel
theorem dX11_cut_68 : decode cX11_cut 68 = .ok (.ireturn, 1) := by decide +kernel
theorem dX11_cut_69 : decode cX11_cut 69 = .ok (.bipush 48, 2) := by decide +kernel
theorem dX11_cut_71 : decode cX11_cut 71 = .ok (.iload_n 2, 1) := by decide +kernel
theorem dX11_cut_72 : decode cX11_cut 72 = .ok (.imul, 1) := by decide +kernel
theorem dX11_cut_73 : decode cX11_cut 73 = .ok (.istore 6, 2) := by decide +kernel
theorem dX11_cut_75 : decode cX11_cut 75 = .ok (.aload_n 0, 1) := by decide +kernel
theorem dX11_cut_76 : decode cX11_cut 76 = .ok (.getfield 10, 3) := by decide +kernel
theorem dX11_cut_79 : decode cX11_cut 79 = .ok (.getfield 135, 3) := by decide +kernel
theorem dX11_cut_82 : decode cX11_cut 82 = .ok (.new 138, 3) := by decide +kernel
theorem dX11_cut_85 : decode cX11_cut 85 = .ok (.dup, 1) := by decide +kernel
theorem dX11_cut_86 : decode cX11_cut 86 = .ok (.iload_n 1, 1) := by decide +kernel
theorem dX11_cut_87 : decode cX11_cut 87 = .ok (.iload 6, 2) := by decide +kernel
theorem dX11_cut_89 : decode cX11_cut 89 = .ok (.iload_n 3, 1) := by decide +kernel
theorem dX11_cut_90 : decode cX11_cut 90 = .ok (.iadd, 1) := by decide +kernel
theorem dX11_cut_91 : decode cX11_cut 91 = .ok (.iload 6, 2) := by decide +kernel
theorem dX11_cut_93 : decode cX11_cut 93 = .ok (.iload 4, 2) := by decide +kernel
theorem dX11_cut_95 : decode cX11_cut 95 = .ok (.iadd, 1) := by decide +kernel
theorem dX11_cut_96 : decode cX11_cut 96 = .ok (.iload 5, 2) := by decide +kernel
theorem dX11_cut_98 : decode cX11_cut 98 = .ok (.aload_n 0, 1) := by decide +kernel
theorem dX11_cut_99 : decode cX11_cut 99 = .ok (.getfield 10, 3) := by decide +kernel
theorem dX11_cut_102 : decode cX11_cut 102 = .ok (.getfield 103, 3) := by decide +kernel
theorem dX11_cut_105 : decode cX11_cut 105 = .ok (.invokespecial 140, 3) := by decide +kernel
theorem dX11_cut_108 : decode cX11_cut 108 = .ok (.invokevirtual 71, 3) := by decide +kernel
theorem dX11_cut_111 : decode cX11_cut 111 = .ok (.pop, 1) := by decide +kernel
theorem dX11_cut_112 : decode cX11_cut 112 = .ok (.aload_n 0, 1) := by decide +kernel
theorem dX11_cut_113 : decode cX11_cut 113 = .ok (.getfield 10, 3) := by decide +kernel
theorem dX11_cut_116 : decode cX11_cut 116 = .ok (.getfield 135, 3) := by decide +kernel
theorem dX11_cut_119 : decode cX11_cut 119 = .ok (.invokevirtual 52, 3) := by decide +kernel
theorem dX11_cut_122 : decode cX11_cut 122 = .ok (.iconst 1, 1) := by decide +kernel
theorem dX11_cut_123 : decode cX11_cut 123 = .ok (.isub, 1) := by decide +kernel
theorem dX11_cut_124 : decode cX11_cut 124 = .ok (.ireturn, 1) := by decide +kernel
theorem cl_X11_138 : Cond.classLink RX11 138 RX0 ∈ hk_tb := hk_tq3 134 (by decide +kernel) (by decide +kernel)
theorem is_X0 : Cond.instantiable RX0 5 ∈ hk_tb := hk_tq3 135 (by decide +kernel) (by decide +kernel)
theorem it_X0 : Cond.initialized RX0 ∈ hk_tb := hk_tq1 22 (by decide +kernel) (by decide +kernel)
theorem df_X0 : ∀ j, j < 5 → defaultValue (tyX0 j) = vp_V [.int (iz 0), .int (iz 0), .int (iz 0), .int (iz 0), .int (iz 0)] j := by
  intro j hj
  rcases (by omega : j = 0 ∨ j = 1 ∨ j = 2 ∨ j = 3 ∨ j = 4) with rfl | rfl | rfl | rfl | rfl <;> rfl
theorem ci_X11_140 : zcI RX11 yX0_init cX0_init 6 140 5 := ⟨hk_tq3 138 (by decide +kernel) (by decide +kernel), hk_tq3 136 (by decide +kernel) (by decide +kernel), hk_tq1 22 (by decide +kernel) (by decide +kernel), ⟨by decide, by decide, by decide +kernel⟩, hk_tq3 137 (by decide +kernel) (by decide +kernel), rfl⟩
set_option maxRecDepth 100000 in
set_option maxHeartbeats 4000000 in
theorem s_X11_cut (l : Launch) {D : va_G} {ar : Nat → ClassId} {B : Nat → Prop} {b n : Nat} {w0 : zcW} {o : olP} (A : Nat → Int) (τ : Nat → Nat → Int) (st : Int) (dy : Int) (fd : Int) (td : Int) (rk : Int) (hA : ∀ i, inI (A i)) (hR : Rel9 ar b w0 A τ) (hc : cn A) (r_st : inI st) (r_dy : inI dy) (r_fd : inI fd) (r_td : inI td) (r_rk : inI rk) (hI : lsq9 ar b w0 n o.2.1 (τ 8)) (hn : b + 47 ≤ n) (he0 : o.2.1 < b) (hB : ∀ q, B q → b ≤ q) (hfree : ∀ a, n ≤ a → w0 a = none) : zo_M l D ar B o yX11_cut cX11_cut 7 (some .int) 7 261 2 65 [.ref b, .int (iz st), .int (iz dy), .int (iz fd), .int (iz td), .int (iz rk)] (cw ar b τ w0) n (fun r' w' n' => (¬ ok_cut A st dy fd td rk ∧ r' = some (.int (iz (-1))) ∧ w' = cw ar b τ w0 ∧ n' = n) ∨ (ok_cut A st dy fd td rk ∧ r' = some (.int (iz (A 5))) ∧ ∃ (e9 N9 : Nat) (f9 : Nat → Option Nat) (m9 : Int) (w9 : zcW), adP ar b τ w0 n o.2.1 8 (A 5).toNat (.inr (1, [.int (iz st), .int (iz (48 * dy + fd)), .int (iz (48 * dy + td)), .int (iz rk), .int (iz (A 8))])) e9 N9 f9 w9 n' ∧ w' = cw ar b (sA τ 8 (lv9 m9 ((e9 : Nat) : Int) ((((A 5).toNat : Nat) : Int) + 1))) w9)) := by
  refine zo_start (own := RX11) (by decide +kernel) rfl (Nat.le_of_ble_eq_true rfl) ?_
  intro p e s m args below meth c C K O hz hr hlk hnam
  have zl8 := hR.l8.1
  have zi := hR.i
  unfold rlI at zi
  refine hv_aload_n C 0 0 dX11_cut_0 rfl rfl ?_
  refine zc_get C K (v := .ref (b + 1)) 0 rfl hu_12 (by decide) cw_0 rfl fl_X11_10 rfl dX11_cut_1 ?_
  refine zc_get C K (v := .ref (b + 8)) 7 rfl hu_9 (by decide) (cw_at 1 rfl) rfl fl_X11_135 rfl dX11_cut_4 ?_
  refine zt_callV [] [] C K (cw_at 8 rfl) rfl (k_Jx4a65c_size_8abf5 l 8 τ  rfl) ck_X11_52 (by decide) ⟨Nat.zero_le _, Nat.zero_le _⟩ rfl (Nat.le_of_ble_eq_true rfl) dX11_cut_7 ?_
  refine hv_as ((τ 8 2)) rfl ?_
  refine hv_nm (fun x1 ex1 => ?_)
  have rx1 : inI x1 := by rw [ex1]; exact (by have z := hA 5; omega)
  refine hv_bipush C dX11_cut_10 (by decide) ?_
  refine hv_icmp_ge C 67 dX11_cut_12 (by decide) (by omega) (by omega) (fun h12 => ?_) (fun h12 => ?_)
  · skip
    refine hv_iconst C dX11_cut_67 ?_
    refine hv_widen 2 65 (by decide) (by decide) ?_; exact zc_iret C hr hlk (Or.inl ⟨by omega, rfl, rfl, rfl⟩) dX11_cut_68
  · skip
    refine hv_iload_n C 1 1 dX11_cut_15 rfl rfl ?_
    refine hv_iconst C dX11_cut_16 ?_
    refine hv_icmp_eq C 28 dX11_cut_17 (by decide) (by omega) (by omega) (fun h17 => ?_) (fun h17 => ?_)
    · skip
      refine hv_iload_n C 2 2 dX11_cut_28 rfl rfl ?_
      refine zt_callS [.int (iz dy)] [] C K (k_X11_isDay l  τ dy (by omega)) ck_X11_86 (by decide) ⟨Nat.zero_le _, Nat.zero_le _⟩ rfl (Nat.le_of_ble_eq_true rfl) dX11_cut_29 ?_
      refine hv_as (xb (decide (0 ≤ dy ∧ dy ≤ 199))) rfl ?_
      refine hv_dif_eq C 67 dX11_cut_32 (by decide)  (fun h32 => ?_) (fun h32 => ?_)
      · skip
        refine hv_iconst C dX11_cut_67 ?_
        refine hv_widen 2 65 (by decide) (by decide) ?_; exact zc_iret C hr hlk (Or.inl ⟨by omega, rfl, rfl, rfl⟩) dX11_cut_68
      · skip
        refine hv_iload_n C 3 3 dX11_cut_35 rfl rfl ?_
        refine zt_callS [.int (iz fd)] [] C K (k_X11_isSlot l  τ fd (by omega)) ck_X11_93 (by decide) ⟨Nat.zero_le _, Nat.zero_le _⟩ rfl (Nat.le_of_ble_eq_true rfl) dX11_cut_36 ?_
        refine hv_as (xb (decide (0 ≤ fd ∧ fd ≤ 47))) rfl ?_
        refine hv_dif_eq C 67 dX11_cut_39 (by decide)  (fun h39 => ?_) (fun h39 => ?_)
        · skip
          refine hv_iconst C dX11_cut_67 ?_
          refine hv_widen 2 65 (by decide) (by decide) ?_; exact zc_iret C hr hlk (Or.inl ⟨by omega, rfl, rfl, rfl⟩) dX11_cut_68
        · skip
          refine hv_iload C 4 4 dX11_cut_42 rfl ?_
          refine zt_callS [.int (iz td)] [] C K (k_X11_isSlot l  τ td (by omega)) ck_X11_93 (by decide) ⟨Nat.zero_le _, Nat.zero_le _⟩ rfl (Nat.le_of_ble_eq_true rfl) dX11_cut_44 ?_
          refine hv_as (xb (decide (0 ≤ td ∧ td ≤ 47))) rfl ?_
          refine hv_dif_eq C 67 dX11_cut_47 (by decide)  (fun h47 => ?_) (fun h47 => ?_)
          · skip
            refine hv_iconst C dX11_cut_67 ?_
            refine hv_widen 2 65 (by decide) (by decide) ?_; exact zc_iret C hr hlk (Or.inl ⟨by omega, rfl, rfl, rfl⟩) dX11_cut_68
          · skip
            refine hv_iload_n C 3 3 dX11_cut_50 rfl rfl ?_
            refine hv_iload C 4 4 dX11_cut_51 rfl ?_
            refine hv_icmp_gt C 67 dX11_cut_53 (by decide) (by omega) (by omega) (fun h53 => ?_) (fun h53 => ?_)
            · skip
              refine hv_iconst C dX11_cut_67 ?_
              refine hv_widen 2 65 (by decide) (by decide) ?_; exact zc_iret C hr hlk (Or.inl ⟨by omega, rfl, rfl, rfl⟩) dX11_cut_68
            · skip
              refine hv_iload C 5 5 dX11_cut_56 rfl ?_
              refine hv_iconst C dX11_cut_58 ?_
              refine hv_bipush C dX11_cut_59 (by decide) ?_
              refine zt_callS [.int (iz rk), .int (iz 0), .int (iz 9)] [] C K (k_X11_within l  τ rk 0 9 (by omega) (by omega) (by omega)) ck_X11_62 (by decide) ⟨Nat.zero_le _, Nat.zero_le _⟩ rfl (Nat.le_of_ble_eq_true rfl) dX11_cut_61 ?_
              refine hv_as (xb (decide (0 ≤ rk ∧ rk ≤ 9))) rfl ?_
              refine hv_dif_ne C 69 dX11_cut_64 (by decide)  (fun h64 => ?_) (fun h64 => ?_)
              · skip
                refine hv_bipush C dX11_cut_69 (by decide) ?_
                refine hv_iload_n C 2 2 dX11_cut_71 rfl rfl ?_
                refine hv_imul C dX11_cut_72 ?_
                refine hv_istore C 6 [(6, .int (iz (48 * dy))), (0, .ref b), (1, .int (iz st)), (2, .int (iz dy)), (3, .int (iz fd)), (4, .int (iz td)), (5, .int (iz rk))] dX11_cut_73 (by decide) rfl ?_
                refine hv_aload_n C 0 1 dX11_cut_75 rfl rfl ?_
                refine zc_get C K (v := .ref (b + 1)) 0 rfl hu_12 (by decide) cw_0 rfl fl_X11_10 rfl dX11_cut_76 ?_
                refine zc_get C K (v := .ref (b + 8)) 7 rfl hu_9 (by decide) (cw_at 1 rfl) rfl fl_X11_135 rfl dX11_cut_79 ?_
                refine zg_new (ci := 1) C K [.int (iz 0), .int (iz 0), .int (iz 0), .int (iz 0), .int (iz 0)] rfl hu_1 tyX0 tyX0_ok cl_X11_138 is_X0 it_X0 (df_X0) (by decide) dX11_cut_82 (n2 := n + 1) rfl ?_
                refine hv_dup C dX11_cut_85 rfl ?_
                refine hv_iload_n C 1 2 dX11_cut_86 rfl rfl ?_
                refine hv_iload C 6 0 dX11_cut_87 rfl ?_
                refine hv_iload_n C 3 4 dX11_cut_89 rfl rfl ?_
                refine hv_iadd C dX11_cut_90 ?_
                refine hv_iload C 6 0 dX11_cut_91 rfl ?_
                refine hv_iload C 4 5 dX11_cut_93 rfl ?_
                refine hv_iadd C dX11_cut_95 ?_
                refine hv_iload C 5 6 dX11_cut_96 rfl ?_
                refine hv_aload_n C 0 1 dX11_cut_98 rfl rfl ?_
                refine zc_get C K (v := .ref (b + 1)) 0 rfl hu_12 (by decide) (zg_ne (by omega) cw_0) rfl fl_X11_10 rfl dX11_cut_99 ?_
                refine zc_get C K (v := .int (iz (τ 1 8))) 8 rfl hu_9 (by decide) (zg_ne (by omega) (cw_at 1 rfl)) rfl fl_X11_103 rfl dX11_cut_102 ?_
                refine hv_nm (fun x2 ex2 => ?_)
                have rx2 : inI x2 := by rw [ex2]; exact (by have z := hA 8; omega)
                refine hv_as ((A 8)) (by omega) ?_
                refine zg_callI [.int (iz st), .int (iz ((48 * dy) + fd)), .int (iz ((48 * dy) + td)), .int (iz rk), .int (iz (A 8))] [.ref n, .ref (b + 8)] C K (g_X0_init l st ((48 * dy) + fd) ((48 * dy) + td) rk (A 8) (by omega) zg_at) ci_X11_140 (by decide) (by decide) rfl (Nat.le_of_ble_eq_true rfl) dX11_cut_105 (w2 := (zc_u (cw ar b τ w0) n (.inr (1, [.int (iz st), .int (iz ((48 * dy) + fd)), .int (iz ((48 * dy) + td)), .int (iz rk), .int (iz (A 8))])))) (n2 := n + 1) (fun r' w' n' h => ⟨h.1, h.2.1.trans zg_uu, h.2.2⟩) ?_
                refine zl_add 8 (A 5).toNat C K O isl_8 hI (by omega) (by omega) hn he0 hB hfree (by rfl) (by decide +kernel) (by rfl) ck_X11_71 (by decide) (by decide) (Nat.le_of_ble_eq_true rfl) dX11_cut_108 (fun e9 N9 f9 m9 w9 n9 hP => ?_)
                refine hv_pop C dX11_cut_111 rfl ?_
                refine hv_aload_n C 0 1 dX11_cut_112 rfl rfl ?_
                refine zc_get C K (v := .ref (b + 1)) 0 rfl hu_12 (by decide) cw_0 rfl fl_X11_10 rfl dX11_cut_113 ?_
                refine zc_get C K (v := .ref (b + 8)) 7 rfl hu_9 (by decide) (cw_at 1 rfl) rfl fl_X11_135 rfl dX11_cut_116 ?_
                refine zt_callV [] [] C K (cw_at 8 rfl) rfl (k_Jx4a65c_size_8abf5 l 8 (sA τ 8 (lv9 m9 ((e9 : Nat) : Int) ((((A 5).toNat : Nat) : Int) + 1)))  rfl) ck_X11_52 (by decide) (by decide) rfl (Nat.le_of_ble_eq_true rfl) dX11_cut_119 ?_
                refine hv_as (((lv9 m9 ((e9 : Nat) : Int) ((((A 5).toNat : Nat) : Int) + 1)) 2)) rfl ?_
                refine hv_as ((A 5 + 1)) (by show (((A 5).toNat : Nat) : Int) + 1 = A 5 + 1; omega) ?_
                refine hv_iconst C dX11_cut_122 ?_
                refine hv_isub C dX11_cut_123 ?_
                refine hv_widen 2 65 (by decide) (by decide) ?_; exact zc_iret C hr hlk (Or.inr ⟨by omega, (by exact congrArg (fun z9 => some (Value.int (iz z9))) (by omega)), e9, N9, f9, m9, w9, hP, rfl⟩) dX11_cut_124
              · skip
                refine hv_iconst C dX11_cut_67 ?_
                refine hv_widen 2 65 (by decide) (by decide) ?_; exact zc_iret C hr hlk (Or.inl ⟨by omega, rfl, rfl, rfl⟩) dX11_cut_68
    · skip
      refine hv_aload_n C 0 0 dX11_cut_20 rfl rfl ?_
      refine hv_iload_n C 1 1 dX11_cut_21 rfl rfl ?_
      refine zt_callV [.int (iz st)] [] C K cw_0 rfl (k_X11_isStation l A τ st hA hR (by omega) hc) ck_X11_112 (by decide) ⟨Nat.zero_le _, Nat.zero_le _⟩ rfl (Nat.le_of_ble_eq_true rfl) dX11_cut_22 ?_
      refine hv_as (xb (decide (0 ≤ st ∧ st ≤ A 2 - 1))) rfl ?_
      refine hv_dif_eq C 67 dX11_cut_25 (by decide)  (fun h25 => ?_) (fun h25 => ?_)
      · skip
        refine hv_iconst C dX11_cut_67 ?_
        refine hv_widen 2 65 (by decide) (by decide) ?_; exact zc_iret C hr hlk (Or.inl ⟨by omega, rfl, rfl, rfl⟩) dX11_cut_68
      · skip
        refine hv_iload_n C 2 2 dX11_cut_28 rfl rfl ?_
        refine zt_callS [.int (iz dy)] [] C K (k_X11_isDay l  τ dy (by omega)) ck_X11_86 (by decide) ⟨Nat.zero_le _, Nat.zero_le _⟩ rfl (Nat.le_of_ble_eq_true rfl) dX11_cut_29 ?_
        refine hv_as (xb (decide (0 ≤ dy ∧ dy ≤ 199))) rfl ?_
        refine hv_dif_eq C 67 dX11_cut_32 (by decide)  (fun h32 => ?_) (fun h32 => ?_)
        · skip
          refine hv_iconst C dX11_cut_67 ?_
          refine hv_widen 2 65 (by decide) (by decide) ?_; exact zc_iret C hr hlk (Or.inl ⟨by omega, rfl, rfl, rfl⟩) dX11_cut_68
        · skip
          refine hv_iload_n C 3 3 dX11_cut_35 rfl rfl ?_
          refine zt_callS [.int (iz fd)] [] C K (k_X11_isSlot l  τ fd (by omega)) ck_X11_93 (by decide) ⟨Nat.zero_le _, Nat.zero_le _⟩ rfl (Nat.le_of_ble_eq_true rfl) dX11_cut_36 ?_
          refine hv_as (xb (decide (0 ≤ fd ∧ fd ≤ 47))) rfl ?_
          refine hv_dif_eq C 67 dX11_cut_39 (by decide)  (fun h39 => ?_) (fun h39 => ?_)
          · skip
            refine hv_iconst C dX11_cut_67 ?_
            refine hv_widen 2 65 (by decide) (by decide) ?_; exact zc_iret C hr hlk (Or.inl ⟨by omega, rfl, rfl, rfl⟩) dX11_cut_68
          · skip
            refine hv_iload C 4 4 dX11_cut_42 rfl ?_
            refine zt_callS [.int (iz td)] [] C K (k_X11_isSlot l  τ td (by omega)) ck_X11_93 (by decide) ⟨Nat.zero_le _, Nat.zero_le _⟩ rfl (Nat.le_of_ble_eq_true rfl) dX11_cut_44 ?_
            refine hv_as (xb (decide (0 ≤ td ∧ td ≤ 47))) rfl ?_
            refine hv_dif_eq C 67 dX11_cut_47 (by decide)  (fun h47 => ?_) (fun h47 => ?_)
            · skip
              refine hv_iconst C dX11_cut_67 ?_
              refine hv_widen 2 65 (by decide) (by decide) ?_; exact zc_iret C hr hlk (Or.inl ⟨by omega, rfl, rfl, rfl⟩) dX11_cut_68
            · skip
              refine hv_iload_n C 3 3 dX11_cut_50 rfl rfl ?_
              refine hv_iload C 4 4 dX11_cut_51 rfl ?_
              refine hv_icmp_gt C 67 dX11_cut_53 (by decide) (by omega) (by omega) (fun h53 => ?_) (fun h53 => ?_)
              · skip
                refine hv_iconst C dX11_cut_67 ?_
                refine hv_widen 2 65 (by decide) (by decide) ?_; exact zc_iret C hr hlk (Or.inl ⟨by omega, rfl, rfl, rfl⟩) dX11_cut_68
              · skip
                refine hv_iload C 5 5 dX11_cut_56 rfl ?_
                refine hv_iconst C dX11_cut_58 ?_
                refine hv_bipush C dX11_cut_59 (by decide) ?_
                refine zt_callS [.int (iz rk), .int (iz 0), .int (iz 9)] [] C K (k_X11_within l  τ rk 0 9 (by omega) (by omega) (by omega)) ck_X11_62 (by decide) ⟨Nat.zero_le _, Nat.zero_le _⟩ rfl (Nat.le_of_ble_eq_true rfl) dX11_cut_61 ?_
                refine hv_as (xb (decide (0 ≤ rk ∧ rk ≤ 9))) rfl ?_
                refine hv_dif_ne C 69 dX11_cut_64 (by decide)  (fun h64 => ?_) (fun h64 => ?_)
                · skip
                  refine hv_bipush C dX11_cut_69 (by decide) ?_
                  refine hv_iload_n C 2 2 dX11_cut_71 rfl rfl ?_
                  refine hv_imul C dX11_cut_72 ?_
                  refine hv_istore C 6 [(6, .int (iz (48 * dy))), (0, .ref b), (1, .int (iz st)), (2, .int (iz dy)), (3, .int (iz fd)), (4, .int (iz td)), (5, .int (iz rk))] dX11_cut_73 (by decide) rfl ?_
                  refine hv_aload_n C 0 1 dX11_cut_75 rfl rfl ?_
                  refine zc_get C K (v := .ref (b + 1)) 0 rfl hu_12 (by decide) cw_0 rfl fl_X11_10 rfl dX11_cut_76 ?_
                  refine zc_get C K (v := .ref (b + 8)) 7 rfl hu_9 (by decide) (cw_at 1 rfl) rfl fl_X11_135 rfl dX11_cut_79 ?_
                  refine zg_new (ci := 1) C K [.int (iz 0), .int (iz 0), .int (iz 0), .int (iz 0), .int (iz 0)] rfl hu_1 tyX0 tyX0_ok cl_X11_138 is_X0 it_X0 (df_X0) (by decide) dX11_cut_82 (n2 := n + 1) rfl ?_
                  refine hv_dup C dX11_cut_85 rfl ?_
                  refine hv_iload_n C 1 2 dX11_cut_86 rfl rfl ?_
                  refine hv_iload C 6 0 dX11_cut_87 rfl ?_
                  refine hv_iload_n C 3 4 dX11_cut_89 rfl rfl ?_
                  refine hv_iadd C dX11_cut_90 ?_
                  refine hv_iload C 6 0 dX11_cut_91 rfl ?_
                  refine hv_iload C 4 5 dX11_cut_93 rfl ?_
                  refine hv_iadd C dX11_cut_95 ?_
                  refine hv_iload C 5 6 dX11_cut_96 rfl ?_
                  refine hv_aload_n C 0 1 dX11_cut_98 rfl rfl ?_
                  refine zc_get C K (v := .ref (b + 1)) 0 rfl hu_12 (by decide) (zg_ne (by omega) cw_0) rfl fl_X11_10 rfl dX11_cut_99 ?_
                  refine zc_get C K (v := .int (iz (τ 1 8))) 8 rfl hu_9 (by decide) (zg_ne (by omega) (cw_at 1 rfl)) rfl fl_X11_103 rfl dX11_cut_102 ?_
                  refine hv_nm (fun x3 ex3 => ?_)
                  have rx3 : inI x3 := by rw [ex3]; exact (by have z := hA 8; omega)
                  refine hv_as ((A 8)) (by omega) ?_
                  refine zg_callI [.int (iz st), .int (iz ((48 * dy) + fd)), .int (iz ((48 * dy) + td)), .int (iz rk), .int (iz (A 8))] [.ref n, .ref (b + 8)] C K (g_X0_init l st ((48 * dy) + fd) ((48 * dy) + td) rk (A 8) (by omega) zg_at) ci_X11_140 (by decide) (by decide) rfl (Nat.le_of_ble_eq_true rfl) dX11_cut_105 (w2 := (zc_u (cw ar b τ w0) n (.inr (1, [.int (iz st), .int (iz ((48 * dy) + fd)), .int (iz ((48 * dy) + td)), .int (iz rk), .int (iz (A 8))])))) (n2 := n + 1) (fun r' w' n' h => ⟨h.1, h.2.1.trans zg_uu, h.2.2⟩) ?_
                  refine zl_add 8 (A 5).toNat C K O isl_8 hI (by omega) (by omega) hn he0 hB hfree (by rfl) (by decide +kernel) (by rfl) ck_X11_71 (by decide) (by decide) (Nat.le_of_ble_eq_true rfl) dX11_cut_108 (fun e9 N9 f9 m9 w9 n9 hP => ?_)
                  refine hv_pop C dX11_cut_111 rfl ?_
                  refine hv_aload_n C 0 1 dX11_cut_112 rfl rfl ?_
                  refine zc_get C K (v := .ref (b + 1)) 0 rfl hu_12 (by decide) cw_0 rfl fl_X11_10 rfl dX11_cut_113 ?_
                  refine zc_get C K (v := .ref (b + 8)) 7 rfl hu_9 (by decide) (cw_at 1 rfl) rfl fl_X11_135 rfl dX11_cut_116 ?_
                  refine zt_callV [] [] C K (cw_at 8 rfl) rfl (k_Jx4a65c_size_8abf5 l 8 (sA τ 8 (lv9 m9 ((e9 : Nat) : Int) ((((A 5).toNat : Nat) : Int) + 1)))  rfl) ck_X11_52 (by decide) (by decide) rfl (Nat.le_of_ble_eq_true rfl) dX11_cut_119 ?_
                  refine hv_as (((lv9 m9 ((e9 : Nat) : Int) ((((A 5).toNat : Nat) : Int) + 1)) 2)) rfl ?_
                  refine hv_as ((A 5 + 1)) (by show (((A 5).toNat : Nat) : Int) + 1 = A 5 + 1; omega) ?_
                  refine hv_iconst C dX11_cut_122 ?_
                  refine hv_isub C dX11_cut_123 ?_
                  refine hv_widen 2 65 (by decide) (by decide) ?_; exact zc_iret C hr hlk (Or.inr ⟨by omega, (by exact congrArg (fun z9 => some (Value.int (iz z9))) (by omega)), e9, N9, f9, m9, w9, hP, rfl⟩) dX11_cut_124
                · skip
                  refine hv_iconst C dX11_cut_67 ?_
                  refine hv_widen 2 65 (by decide) (by decide) ?_; exact zc_iret C hr hlk (Or.inl ⟨by omega, rfl, rfl, rfl⟩) dX11_cut_68
theorem dX11_hour_0 : decode cX11_hour 0 = .ok (.aload_n 0, 1) := by decide +kernel
theorem dX11_hour_1 : decode cX11_hour 1 = .ok (.getfield 10, 3) := by decide +kernel
theorem dX11_hour_4 : decode cX11_hour 4 = .ok (.getfield 124, 3) := by decide +kernel
theorem dX11_hour_7 : decode cX11_hour 7 = .ok (.invokevirtual 52, 3) := by decide +kernel
theorem dX11_hour_10 : decode cX11_hour 10 = .ok (.bipush 24, 2) := by decide +kernel
theorem dX11_hour_12 : decode cX11_hour 12 = .ok (.if_icmp .ge 83, 3) := by decide +kernel
theorem dX11_hour_15 : decode cX11_hour 15 = .ok (.iload_n 1, 1) := by decide +kernel
theorem dX11_hour_16 : decode cX11_hour 16 = .ok (.invokestatic 115, 3) := by decide +kernel
theorem dX11_hour_19 : decode cX11_hour 19 = .ok (.ifCond .eq 76, 3) := by decide +kernel
theorem dX11_hour_22 : decode cX11_hour 22 = .ok (.iload_n 2, 1) := by decide +kernel
theorem dX11_hour_23 : decode cX11_hour 23 = .ok (.invokestatic 86, 3) := by decide +kernel
theorem dX11_hour_26 : decode cX11_hour 26 = .ok (.ifCond .eq 69, 3) := by decide +kernel
theorem dX11_hour_29 : decode cX11_hour 29 = .ok (.iload_n 3, 1) := by decide +kernel
theorem dX11_hour_30 : decode cX11_hour 30 = .ok (.invokestatic 93, 3) := by decide +kernel
theorem dX11_hour_33 : decode cX11_hour 33 = .ok (.ifCond .eq 62, 3) := by decide +kernel
theorem dX11_hour_36 : decode cX11_hour 36 = .ok (.iload 4, 2) := by decide +kernel
theorem dX11_hour_38 : decode cX11_hour 38 = .ok (.iconst 1, 1) := by decide +kernel
theorem dX11_hour_39 : decode cX11_hour 39 = .ok (.iconst 4, 1) := by decide +kernel
theorem dX11_hour_40 : decode cX11_hour 40 = .ok (.invokestatic 62, 3) := by decide +kernel
theorem dX11_hour_43 : decode cX11_hour 43 = .ok (.ifCond .eq 52, 3) := by decide +kernel
theorem dX11_hour_46 : decode cX11_hour 46 = .ok (.iload_n 3, 1) := by decide +kernel
theorem dX11_hour_47 : decode cX11_hour 47 = .ok (.iload 4, 2) := by decide +kernel
theorem dX11_hour_49 : decode cX11_hour 49 = .ok (.iadd, 1) := by decide +kernel
theorem dX11_hour_50 : decode cX11_hour 50 = .ok (.bipush 48, 2) := by decide +kernel
theorem dX11_hour_52 : decode cX11_hour 52 = .ok (.if_icmp .gt 43, 3) := by decide +kernel
theorem dX11_hour_55 : decode cX11_hour 55 = .ok (.aload_n 0, 1) := by decide +kernel
theorem dX11_hour_56 : decode cX11_hour 56 = .ok (.iload 5, 2) := by decide +kernel
theorem dX11_hour_58 : decode cX11_hour 58 = .ok (.invokevirtual 58, 3) := by decide +kernel
theorem dX11_hour_61 : decode cX11_hour 61 = .ok (.ifCond .eq 34, 3) := by decide +kernel
theorem dX11_hour_64 : decode cX11_hour 64 = .ok (.iload 6, 2) := by decide +kernel
theorem dX11_hour_66 : decode cX11_hour 66 = .ok (.invokestatic 127, 3) := by decide +kernel
theorem dX11_hour_69 : decode cX11_hour 69 = .ok (.ifCond .eq 26, 3) := by decide +kernel
theorem dX11_hour_72 : decode cX11_hour 72 = .ok (.iload 7, 2) := by decide +kernel
theorem dX11_hour_74 : decode cX11_hour 74 = .ok (.iconst 0, 1) := by decide +kernel
theorem dX11_hour_75 : decode cX11_hour 75 = .ok (.iconst 1, 1) := by decide +kernel
theorem dX11_hour_76 : decode cX11_hour 76 = .ok (.aload_n 0, 1) := by decide +kernel
theorem dX11_hour_77 : decode cX11_hour 77 = .ok (.getfield 10, 3) := by decide +kernel
theorem dX11_hour_80 : decode cX11_hour 80 = .ok (.getfield 75, 3) := by decide +kernel
theorem dX11_hour_83 : decode cX11_hour 83 = .ok (.invokevirtual 52, 3) := by decide +kernel
theorem dX11_hour_86 : decode cX11_hour 86 = .ok (.ishl, 1) := by decide +kernel
theorem dX11_hour_87 : decode cX11_hour 87 = .ok (.iconst 1, 1) := by decide +kernel
theorem dX11_hour_88 : decode cX11_hour 88 = .ok (.isub, 1) := by decide +kernel
theorem dX11_hour_89 : decode cX11_hour 89 = .ok (.invokestatic 62, 3) := by decide +kernel
theorem dX11_hour_92 : decode cX11_hour 92 = .ok (.ifCond .ne 5, 3) := by decide +kernel
theorem dX11_hour_95 : decode cX11_hour 95 = .ok (.iconst (-1), 1) := by decide +kernel
theorem dX11_hour_96 : decode cX11_hour 96 = .ok (.ireturn, 1) := by decide +kernel
theorem dX11_hour_97 : decode cX11_hour 97 = .ok (.aload_n 0, 1) := by decide +kernel
theorem dX11_hour_98 : decode cX11_hour 98 = .ok (.getfield 10, 3) := by decide +kernel
theorem dX11_hour_101 : decode cX11_hour 101 = .ok (.getfield 124, 3) := by decide +kernel
theorem dX11_hour_104 : decode cX11_hour 104 = .ok (.new 130, 3) := by decide +kernel
theorem dX11_hour_107 : decode cX11_hour 107 = .ok (.dup, 1) := by decide +kernel
theorem dX11_hour_108 : decode cX11_hour 108 = .ok (.iload_n 1, 1) := by decide +kernel
theorem dX11_hour_109 : decode cX11_hour 109 = .ok (.bipush 48, 2) := by decide +kernel
theorem dX11_hour_111 : decode cX11_hour 111 = .ok (.iload_n 2, 1) := by decide +kernel
theorem dX11_hour_112 : decode cX11_hour 112 = .ok (.imul, 1) := by decide +kernel
theorem dX11_hour_113 : decode cX11_hour 113 = .ok (.iload_n 3, 1) := by decide +kernel
theorem dX11_hour_114 : decode cX11_hour 114 = .ok (.iadd, 1) := by decide +kernel
theorem dX11_hour_115 : decode cX11_hour 115 = .ok (.iload 4, 2) := by decide +kernel
theorem dX11_hour_117 : decode cX11_hour 117 = .ok (.iload 5, 2) := by decide +kernel
theorem dX11_hour_119 : decode cX11_hour 119 = .ok (.iload 6, 2) := by decide +kernel
theorem dX11_hour_121 : decode cX11_hour 121 = .ok (.iload 7, 2) := by decide +kernel
theorem dX11_hour_123 : decode cX11_hour 123 = .ok (.aload_n 0, 1) := by decide +kernel
theorem dX11_hour_124 : decode cX11_hour 124 = .ok (.getfield 10, 3) := by decide +kernel
theorem dX11_hour_127 : decode cX11_hour 127 = .ok (.getfield 103, 3) := by decide +kernel
theorem dX11_hour_130 : decode cX11_hour 130 = .ok (.invokespecial 132, 3) := by decide +kernel
theorem dX11_hour_133 : decode cX11_hour 133 = .ok (.invokevirtual 71, 3) := by decide +kernel
theorem dX11_hour_136 : decode cX11_hour 136 = .ok (.pop, 1) := by decide +kernel
theorem dX11_hour_137 : decode cX11_hour 137 = .ok (.aload_n 0, 1) := by decide +kernel
theorem dX11_hour_138 : decode cX11_hour 138 = .ok (.getfield 10, 3) := by decide +kernel
theorem dX11_hour_141 : decode cX11_hour 141 = .ok (.getfield 124, 3) := by decide +kernel
theorem dX11_hour_144 : decode cX11_hour 144 = .ok (.invokevirtual 52, 3) := by decide +kernel
theorem dX11_hour_147 : decode cX11_hour 147 = .ok (.iconst 1, 1) := by decide +kernel
theorem dX11_hour_148 : decode cX11_hour 148 = .ok (.isub, 1) := by decide +kernel
theorem dX11_hour_149 : decode cX11_hour 149 = .ok (.ireturn, 1) := by decide +kernel
theorem is_X3 : Cond.instantiable RX3 7 ∈ hk_tb := hk_tq3 88 (by decide +kernel) (by decide +kernel)
theorem it_X3 : Cond.initialized RX3 ∈ hk_tb := hk_tq1 21 (by decide +kernel) (by decide +kernel)
theorem df_X3 : ∀ j, j < 7 → defaultValue (tyX3 j) = vp_V [.int (iz 0), .int (iz 0), .int (iz 0), .int (iz 0), .int (iz 0), .int (iz 0), .int (iz 0)] j := by
  intro j hj
  rcases (by omega : j = 0 ∨ j = 1 ∨ j = 2 ∨ j = 3 ∨ j = 4 ∨ j = 5 ∨ j = 6) with rfl | rfl | rfl | rfl | rfl | rfl | rfl <;> rfl
theorem ci_X11_132 : zcI RX11 yX3_init cX3_init 8 132 7 := ⟨hk_tq3 91 (by decide +kernel) (by decide +kernel), hk_tq3 89 (by decide +kernel) (by decide +kernel), hk_tq1 21 (by decide +kernel) (by decide +kernel), ⟨by decide, by decide, by decide +kernel⟩, hk_tq3 90 (by decide +kernel) (by decide +kernel), rfl⟩
set_option maxRecDepth 100000 in
set_option maxHeartbeats 4000000 in
theorem s_X11_hour (l : Launch) {D : va_G} {ar : Nat → ClassId} {B : Nat → Prop} {b n : Nat} {w0 : zcW} {o : olP} (A : Nat → Int) (τ : Nat → Nat → Int) (nw : Int) (dy : Int) (sl : Int) (ln : Int) (tw : Int) (so : Int) (ss : Int) (hA : ∀ i, inI (A i)) (hR : Rel9 ar b w0 A τ) (hc : cn A) (r_nw : inI nw) (r_dy : inI dy) (r_sl : inI sl) (r_ln : inI ln) (r_tw : inI tw) (r_so : inI so) (r_ss : inI ss) (hI : lsq9 ar b w0 n o.2.1 (τ 7)) (hn : b + 47 ≤ n) (he0 : o.2.1 < b) (hB : ∀ q, B q → b ≤ q) (hfree : ∀ a, n ≤ a → w0 a = none) : zo_M l D ar B o yX11_hour cX11_hour 8 (some .int) 7 261 2 67 [.ref b, .int (iz nw), .int (iz dy), .int (iz sl), .int (iz ln), .int (iz tw), .int (iz so), .int (iz ss)] (cw ar b τ w0) n (fun r' w' n' => (¬ ok_hour A nw dy sl ln tw so ss ∧ r' = some (.int (iz (-1))) ∧ w' = cw ar b τ w0 ∧ n' = n) ∨ (ok_hour A nw dy sl ln tw so ss ∧ r' = some (.int (iz (A 4))) ∧ ∃ (e9 N9 : Nat) (f9 : Nat → Option Nat) (m9 : Int) (w9 : zcW), adP ar b τ w0 n o.2.1 7 (A 4).toNat (.inr (4, [.int (iz nw), .int (iz (48 * dy + sl)), .int (iz ln), .int (iz tw), .int (iz so), .int (iz ss), .int (iz (A 8))])) e9 N9 f9 w9 n' ∧ w' = cw ar b (sA τ 7 (lv9 m9 ((e9 : Nat) : Int) ((((A 4).toNat : Nat) : Int) + 1))) w9)) := by
  refine zo_start (own := RX11) (by decide +kernel) rfl (Nat.le_of_ble_eq_true rfl) ?_
  intro p e s m args below meth c C K O hz hr hlk hnam
  have zl7 := hR.l7.1
  have zi := hR.i
  unfold rlI at zi
  have zl3 := hR.l3.1
  refine hv_aload_n C 0 0 dX11_hour_0 rfl rfl ?_
  refine zc_get C K (v := .ref (b + 1)) 0 rfl hu_12 (by decide) cw_0 rfl fl_X11_10 rfl dX11_hour_1 ?_
  refine zc_get C K (v := .ref (b + 7)) 6 rfl hu_9 (by decide) (cw_at 1 rfl) rfl fl_X11_124 rfl dX11_hour_4 ?_
  refine zt_callV [] [] C K (cw_at 7 rfl) rfl (k_Jx4a65c_size_8abf5 l 7 τ  rfl) ck_X11_52 (by decide) ⟨Nat.zero_le _, Nat.zero_le _⟩ rfl (Nat.le_of_ble_eq_true rfl) dX11_hour_7 ?_
  refine hv_as ((τ 7 2)) rfl ?_
  refine hv_nm (fun x1 ex1 => ?_)
  have rx1 : inI x1 := by rw [ex1]; exact (by have z := hA 4; omega)
  refine hv_bipush C dX11_hour_10 (by decide) ?_
  refine hv_icmp_ge C 95 dX11_hour_12 (by decide) (by omega) (by omega) (fun h12 => ?_) (fun h12 => ?_)
  · skip
    refine hv_iconst C dX11_hour_95 ?_
    refine hv_widen 2 67 (by decide) (by decide) ?_; exact zc_iret C hr hlk (Or.inl ⟨by omega, rfl, rfl, rfl⟩) dX11_hour_96
  · skip
    refine hv_iload_n C 1 1 dX11_hour_15 rfl rfl ?_
    refine zt_callS [.int (iz nw)] [] C K (k_X11_isNetwork l  τ nw (by omega)) ck_X11_115 (by decide) ⟨Nat.zero_le _, Nat.zero_le _⟩ rfl (Nat.le_of_ble_eq_true rfl) dX11_hour_16 ?_
    refine hv_as (xb (decide (0 ≤ nw ∧ nw ≤ 2))) rfl ?_
    refine hv_dif_eq C 95 dX11_hour_19 (by decide)  (fun h19 => ?_) (fun h19 => ?_)
    · skip
      refine hv_iconst C dX11_hour_95 ?_
      refine hv_widen 2 67 (by decide) (by decide) ?_; exact zc_iret C hr hlk (Or.inl ⟨by omega, rfl, rfl, rfl⟩) dX11_hour_96
    · skip
      refine hv_iload_n C 2 2 dX11_hour_22 rfl rfl ?_
      refine zt_callS [.int (iz dy)] [] C K (k_X11_isDay l  τ dy (by omega)) ck_X11_86 (by decide) ⟨Nat.zero_le _, Nat.zero_le _⟩ rfl (Nat.le_of_ble_eq_true rfl) dX11_hour_23 ?_
      refine hv_as (xb (decide (0 ≤ dy ∧ dy ≤ 199))) rfl ?_
      refine hv_dif_eq C 95 dX11_hour_26 (by decide)  (fun h26 => ?_) (fun h26 => ?_)
      · skip
        refine hv_iconst C dX11_hour_95 ?_
        refine hv_widen 2 67 (by decide) (by decide) ?_; exact zc_iret C hr hlk (Or.inl ⟨by omega, rfl, rfl, rfl⟩) dX11_hour_96
      · skip
        refine hv_iload_n C 3 3 dX11_hour_29 rfl rfl ?_
        refine zt_callS [.int (iz sl)] [] C K (k_X11_isSlot l  τ sl (by omega)) ck_X11_93 (by decide) ⟨Nat.zero_le _, Nat.zero_le _⟩ rfl (Nat.le_of_ble_eq_true rfl) dX11_hour_30 ?_
        refine hv_as (xb (decide (0 ≤ sl ∧ sl ≤ 47))) rfl ?_
        refine hv_dif_eq C 95 dX11_hour_33 (by decide)  (fun h33 => ?_) (fun h33 => ?_)
        · skip
          refine hv_iconst C dX11_hour_95 ?_
          refine hv_widen 2 67 (by decide) (by decide) ?_; exact zc_iret C hr hlk (Or.inl ⟨by omega, rfl, rfl, rfl⟩) dX11_hour_96
        · skip
          refine hv_iload C 4 4 dX11_hour_36 rfl ?_
          refine hv_iconst C dX11_hour_38 ?_
          refine hv_iconst C dX11_hour_39 ?_
          refine zt_callS [.int (iz ln), .int (iz 1), .int (iz 4)] [] C K (k_X11_within l  τ ln 1 4 (by omega) (by omega) (by omega)) ck_X11_62 (by decide) ⟨Nat.zero_le _, Nat.zero_le _⟩ rfl (Nat.le_of_ble_eq_true rfl) dX11_hour_40 ?_
          refine hv_as (xb (decide (1 ≤ ln ∧ ln ≤ 4))) rfl ?_
          refine hv_dif_eq C 95 dX11_hour_43 (by decide)  (fun h43 => ?_) (fun h43 => ?_)
          · skip
            refine hv_iconst C dX11_hour_95 ?_
            refine hv_widen 2 67 (by decide) (by decide) ?_; exact zc_iret C hr hlk (Or.inl ⟨by omega, rfl, rfl, rfl⟩) dX11_hour_96
          · skip
            refine hv_iload_n C 3 3 dX11_hour_46 rfl rfl ?_
            refine hv_iload C 4 4 dX11_hour_47 rfl ?_
            refine hv_iadd C dX11_hour_49 ?_
            refine hv_bipush C dX11_hour_50 (by decide) ?_
            refine hv_icmp_gt C 95 dX11_hour_52 (by decide) (by omega) (by omega) (fun h52 => ?_) (fun h52 => ?_)
            · skip
              refine hv_iconst C dX11_hour_95 ?_
              refine hv_widen 2 67 (by decide) (by decide) ?_; exact zc_iret C hr hlk (Or.inl ⟨by omega, rfl, rfl, rfl⟩) dX11_hour_96
            · skip
              refine hv_aload_n C 0 0 dX11_hour_55 rfl rfl ?_
              refine hv_iload C 5 5 dX11_hour_56 rfl ?_
              refine zt_callV [.int (iz tw)] [] C K cw_0 rfl (k_X11_isTown l A τ tw hA hR (by omega) hc) ck_X11_58 (by decide) ⟨Nat.zero_le _, Nat.zero_le _⟩ rfl (Nat.le_of_ble_eq_true rfl) dX11_hour_58 ?_
              refine hv_as (xb (decide (0 ≤ tw ∧ tw ≤ A 0 - 1))) rfl ?_
              refine hv_dif_eq C 95 dX11_hour_61 (by decide)  (fun h61 => ?_) (fun h61 => ?_)
              · skip
                refine hv_iconst C dX11_hour_95 ?_
                refine hv_widen 2 67 (by decide) (by decide) ?_; exact zc_iret C hr hlk (Or.inl ⟨by omega, rfl, rfl, rfl⟩) dX11_hour_96
              · skip
                refine hv_iload C 6 6 dX11_hour_64 rfl ?_
                refine zt_callS [.int (iz so)] [] C K (k_X11_isSort l  τ so (by omega)) ck_X11_127 (by decide) ⟨Nat.zero_le _, Nat.zero_le _⟩ rfl (Nat.le_of_ble_eq_true rfl) dX11_hour_66 ?_
                refine hv_as (xb (decide (0 ≤ so ∧ so ≤ 7))) rfl ?_
                refine hv_dif_eq C 95 dX11_hour_69 (by decide)  (fun h69 => ?_) (fun h69 => ?_)
                · skip
                  refine hv_iconst C dX11_hour_95 ?_
                  refine hv_widen 2 67 (by decide) (by decide) ?_; exact zc_iret C hr hlk (Or.inl ⟨by omega, rfl, rfl, rfl⟩) dX11_hour_96
                · skip
                  refine hv_iload C 7 7 dX11_hour_72 rfl ?_
                  refine hv_iconst C dX11_hour_74 ?_
                  refine hv_iconst C dX11_hour_75 ?_
                  refine hv_aload_n C 0 0 dX11_hour_76 rfl rfl ?_
                  refine zc_get C K (v := .ref (b + 1)) 0 rfl hu_12 (by decide) cw_0 rfl fl_X11_10 rfl dX11_hour_77 ?_
                  refine zc_get C K (v := .ref (b + 3)) 2 rfl hu_9 (by decide) (cw_at 1 rfl) rfl fl_X11_75 rfl dX11_hour_80 ?_
                  refine zt_callV [] [.int (iz 1), .int (iz 0), .int (iz ss)] C K (cw_at 3 rfl) rfl (k_Jx4a65c_size_8abf5 l 3 τ  rfl) ck_X11_52 (by decide) ⟨Nat.zero_le _, Nat.zero_le _⟩ rfl (Nat.le_of_ble_eq_true rfl) dX11_hour_83 ?_
                  refine hv_as ((τ 3 2)) rfl ?_
                  refine hv_nm (fun x2 ex2 => ?_)
                  have rx2 : inI x2 := by rw [ex2]; exact (by have z := hA 2; omega)
                  obtain ⟨kn, rfl⟩ : ∃ n9 : Nat, x2 = (n9 : Int) := ⟨(x2).toNat, by omega⟩
                  have pk86 : (2 : Int) ^ kn ≤ 256 ∧ 1 ≤ (2 : Int) ^ kn ∧ (2 : Int) ^ kn = 2 ^ (A 2).toNat := by rw [show (A 2).toNat = kn by omega]; rcases (by omega : kn = 0 ∨ kn = 1 ∨ kn = 2 ∨ kn = 3 ∨ kn = 4 ∨ kn = 5 ∨ kn = 6 ∨ kn = 7 ∨ kn = 8) with q | q | q | q | q | q | q | q | q <;> subst q <;> decide
                  refine hv_ishl1 C kn (by omega) (by omega) dX11_hour_86 ?_
                  refine hv_iconst C dX11_hour_87 ?_
                  refine hv_isub C dX11_hour_88 ?_
                  refine zt_callS [.int (iz ss), .int (iz 0), .int (iz (((2 : Int) ^ kn) - 1))] [] C K (k_X11_within l  τ ss 0 (((2 : Int) ^ kn) - 1) (by omega) (by omega) (by omega)) ck_X11_62 (by decide) ⟨Nat.zero_le _, Nat.zero_le _⟩ rfl (Nat.le_of_ble_eq_true rfl) dX11_hour_89 ?_
                  refine hv_as (xb (decide (0 ≤ ss ∧ ss ≤ (((2 : Int) ^ kn) - 1)))) rfl ?_
                  refine hv_dif_ne C 97 dX11_hour_92 (by decide)  (fun h92 => ?_) (fun h92 => ?_)
                  · skip
                    refine hv_aload_n C 0 0 dX11_hour_97 rfl rfl ?_
                    refine zc_get C K (v := .ref (b + 1)) 0 rfl hu_12 (by decide) cw_0 rfl fl_X11_10 rfl dX11_hour_98 ?_
                    refine zc_get C K (v := .ref (b + 7)) 6 rfl hu_9 (by decide) (cw_at 1 rfl) rfl fl_X11_124 rfl dX11_hour_101 ?_
                    refine zg_new (ci := 4) C K [.int (iz 0), .int (iz 0), .int (iz 0), .int (iz 0), .int (iz 0), .int (iz 0), .int (iz 0)] rfl hu_4 tyX3 tyX3_ok cl_X11_130 is_X3 it_X3 (df_X3) (by decide) dX11_hour_104 (n2 := n + 1) rfl ?_
                    refine hv_dup C dX11_hour_107 rfl ?_
                    refine hv_iload_n C 1 1 dX11_hour_108 rfl rfl ?_
                    refine hv_bipush C dX11_hour_109 (by decide) ?_
                    refine hv_iload_n C 2 2 dX11_hour_111 rfl rfl ?_
                    refine hv_imul C dX11_hour_112 ?_
                    refine hv_iload_n C 3 3 dX11_hour_113 rfl rfl ?_
                    refine hv_iadd C dX11_hour_114 ?_
                    refine hv_iload C 4 4 dX11_hour_115 rfl ?_
                    refine hv_iload C 5 5 dX11_hour_117 rfl ?_
                    refine hv_iload C 6 6 dX11_hour_119 rfl ?_
                    refine hv_iload C 7 7 dX11_hour_121 rfl ?_
                    refine hv_aload_n C 0 0 dX11_hour_123 rfl rfl ?_
                    refine zc_get C K (v := .ref (b + 1)) 0 rfl hu_12 (by decide) (zg_ne (by omega) cw_0) rfl fl_X11_10 rfl dX11_hour_124 ?_
                    refine zc_get C K (v := .int (iz (τ 1 8))) 8 rfl hu_9 (by decide) (zg_ne (by omega) (cw_at 1 rfl)) rfl fl_X11_103 rfl dX11_hour_127 ?_
                    refine hv_nm (fun x3 ex3 => ?_)
                    have rx3 : inI x3 := by rw [ex3]; exact (by have z := hA 8; omega)
                    refine hv_as ((A 8)) (by omega) ?_
                    refine zg_callI [.int (iz nw), .int (iz ((48 * dy) + sl)), .int (iz ln), .int (iz tw), .int (iz so), .int (iz ss), .int (iz (A 8))] [.ref n, .ref (b + 7)] C K (g_X3_init l nw ((48 * dy) + sl) ln tw so ss (A 8) (by omega) zg_at) ci_X11_132 (by decide) (by decide) rfl (Nat.le_of_ble_eq_true rfl) dX11_hour_130 (w2 := (zc_u (cw ar b τ w0) n (.inr (4, [.int (iz nw), .int (iz ((48 * dy) + sl)), .int (iz ln), .int (iz tw), .int (iz so), .int (iz ss), .int (iz (A 8))])))) (n2 := n + 1) (fun r' w' n' h => ⟨h.1, h.2.1.trans zg_uu, h.2.2⟩) ?_
                    refine zl_add 7 (A 4).toNat C K O isl_7 hI (by omega) (by omega) hn he0 hB hfree (by rfl) (by decide +kernel) (by rfl) ck_X11_71 (by decide) (by decide) (Nat.le_of_ble_eq_true rfl) dX11_hour_133 (fun e9 N9 f9 m9 w9 n9 hP => ?_)
                    refine hv_pop C dX11_hour_136 rfl ?_
                    refine hv_aload_n C 0 0 dX11_hour_137 rfl rfl ?_
                    refine zc_get C K (v := .ref (b + 1)) 0 rfl hu_12 (by decide) cw_0 rfl fl_X11_10 rfl dX11_hour_138 ?_
                    refine zc_get C K (v := .ref (b + 7)) 6 rfl hu_9 (by decide) (cw_at 1 rfl) rfl fl_X11_124 rfl dX11_hour_141 ?_
                    refine zt_callV [] [] C K (cw_at 7 rfl) rfl (k_Jx4a65c_size_8abf5 l 7 (sA τ 7 (lv9 m9 ((e9 : Nat) : Int) ((((A 4).toNat : Nat) : Int) + 1)))  rfl) ck_X11_52 (by decide) (by decide) rfl (Nat.le_of_ble_eq_true rfl) dX11_hour_144 ?_
                    refine hv_as (((lv9 m9 ((e9 : Nat) : Int) ((((A 4).toNat : Nat) : Int) + 1)) 2)) rfl ?_
                    refine hv_as ((A 4 + 1)) (by show (((A 4).toNat : Nat) : Int) + 1 = A 4 + 1; omega) ?_
                    refine hv_iconst C dX11_hour_147 ?_
                    refine hv_isub C dX11_hour_148 ?_
                    refine hv_widen 2 67 (by decide) (by decide) ?_; exact zc_iret C hr hlk (Or.inr ⟨by omega, (by exact congrArg (fun z9 => some (Value.int (iz z9))) (by omega)), e9, N9, f9, m9, w9, hP, rfl⟩) dX11_hour_149
                  · skip
                    refine hv_iconst C dX11_hour_95 ?_
                    refine hv_widen 2 67 (by decide) (by decide) ?_; exact zc_iret C hr hlk (Or.inl ⟨by omega, rfl, rfl, rfl⟩) dX11_hour_96
