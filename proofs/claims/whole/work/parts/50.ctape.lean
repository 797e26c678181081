theorem sb_nar (x : Int) : vp_nar .byte (iz (sb9 x)) = iz (sb9 x) := by
  rw [vp_nar_byte]
  unfold sb9
  rw [iz_of]
  simp
/-- four bytes of a number, on the tape from L on -/
def pt9 (T : Nat → Int) (L : Nat) (w : Int) : Nat → (Nat → Int)
  | 0 => T
  | j + 1 => ua (pt9 T L w j) (L + j) (sb9 (w / 2 ^ (24 - 8 * j)))

theorem dX8_putOnTape_0 : decode cX8_putOnTape 0 = .ok (.bipush 24, 2) := by decide +kernel
theorem dX8_putOnTape_2 : decode cX8_putOnTape 2 = .ok (.istore_n 2, 1) := by decide +kernel
theorem dX8_putOnTape_3 : decode cX8_putOnTape 3 = .ok (.iload_n 2, 1) := by decide +kernel
theorem dX8_putOnTape_4 : decode cX8_putOnTape 4 = .ok (.ifCond .lt 42, 3) := by decide +kernel
theorem dX8_putOnTape_7 : decode cX8_putOnTape 7 = .ok (.aload_n 0, 1) := by decide +kernel
theorem dX8_putOnTape_8 : decode cX8_putOnTape 8 = .ok (.getfield 84, 3) := by decide +kernel
theorem dX8_putOnTape_11 : decode cX8_putOnTape 11 = .ok (.sipush 500, 3) := by decide +kernel
theorem dX8_putOnTape_14 : decode cX8_putOnTape 14 = .ok (.if_icmp .ge 32, 3) := by decide +kernel
theorem dX8_putOnTape_17 : decode cX8_putOnTape 17 = .ok (.aload_n 0, 1) := by decide +kernel
theorem dX8_putOnTape_18 : decode cX8_putOnTape 18 = .ok (.getfield 44, 3) := by decide +kernel
theorem dX8_putOnTape_21 : decode cX8_putOnTape 21 = .ok (.aload_n 0, 1) := by decide +kernel
theorem dX8_putOnTape_22 : decode cX8_putOnTape 22 = .ok (.getfield 84, 3) := by decide +kernel
theorem dX8_putOnTape_25 : decode cX8_putOnTape 25 = .ok (.iload_n 1, 1) := by decide +kernel
theorem dX8_putOnTape_26 : decode cX8_putOnTape 26 = .ok (.iload_n 2, 1) := by decide +kernel
theorem dX8_putOnTape_27 : decode cX8_putOnTape 27 = .ok (.ishr, 1) := by decide +kernel
theorem dX8_putOnTape_28 : decode cX8_putOnTape 28 = .ok (.i2b, 1) := by decide +kernel
theorem dX8_putOnTape_29 : decode cX8_putOnTape 29 = .ok (.bastore, 1) := by decide +kernel
theorem dX8_putOnTape_30 : decode cX8_putOnTape 30 = .ok (.aload_n 0, 1) := by decide +kernel
theorem dX8_putOnTape_31 : decode cX8_putOnTape 31 = .ok (.dup, 1) := by decide +kernel
theorem dX8_putOnTape_32 : decode cX8_putOnTape 32 = .ok (.getfield 84, 3) := by decide +kernel
theorem dX8_putOnTape_35 : decode cX8_putOnTape 35 = .ok (.iconst 1, 1) := by decide +kernel
theorem dX8_putOnTape_36 : decode cX8_putOnTape 36 = .ok (.iadd, 1) := by decide +kernel
theorem dX8_putOnTape_37 : decode cX8_putOnTape 37 = .ok (.putfield 84, 3) := by decide +kernel
theorem dX8_putOnTape_40 : decode cX8_putOnTape 40 = .ok (.iinc 2 (-8), 3) := by decide +kernel
theorem dX8_putOnTape_43 : decode cX8_putOnTape 43 = .ok (.goto (-40), 3) := by decide +kernel
theorem dX8_putOnTape_46 : decode cX8_putOnTape 46 = .ok (.return_, 1) := by decide +kernel
theorem fl_X8_84 : Cond.fieldLink RX8 84 "HookUps$Told" (TX8 12).2.1 (TX8 12).2.2.1 ∈ hk_tb := hk_tq1 151 (by decide +kernel) (by decide +kernel)
theorem fl_X8_44 : Cond.fieldLink RX8 44 "HookUps$Told" (TX8 11).2.1 (TX8 11).2.2.1 ∈ hk_tb := hk_tq1 149 (by decide +kernel) (by decide +kernel)
set_option maxRecDepth 100000 in
set_option maxHeartbeats 4000000 in
theorem k_X8_putOnTape (l : Launch) {D : va_G} {ar : Nat → ClassId} {B : Nat → Prop} {b n : Nat} {w0 : zcW}  (τ : Nat → Nat → Int) (four : Int) (hL : 0 ≤ τ 1 12 ∧ τ 1 12 ≤ 496) (r_four : inI four) : zt_M l D ar B b w0 n yX8_putOnTape cX8_putOnTape 3 none 0 0 [.ref (b + 1), .int (iz four)] τ none (sA (sA τ 1 (ua (τ 1) 12 (τ 1 12 + 4))) 9 (pt9 (τ 9) (τ 1 12).toNat four 4)) := by
  refine zc_start (own := RX8) (by decide +kernel) rfl (Nat.le_of_ble_eq_true rfl) ?_
  intro p e s m args below meth c C K hr hlk hnam
  refine hv_bipush C dX8_putOnTape_0 (by decide) ?_
  refine hv_istore_n C 2 [(2, .int (iz 24)), (0, .ref (b + 1)), (1, .int (iz four))] dX8_putOnTape_2 rfl (by decide) rfl ?_
  have L3 : ∀ (f : Nat) (sh9 : Int) (tl : Int) (TP : Nat → Int) (j : Nat), 4 - j < f → (j ≤ 4 ∧ sh9 = 24 - 8 * (j : Int)) → (tl = τ 1 12 + (j : Int)) → (TP = pt9 (τ 9) (τ 1 12).toNat four j) → hvV p l e { frames := 0, cells := 0, slots := 0, locals := 0 } s m args below meth c 3 B 0 0 (MQ below (zc_Q D B (fun r' w' n' => r' = none ∧ w' = cw ar b (sA (sA τ 1 (ua (τ 1) 12 (τ 1 12 + 4))) 9 (pt9 (τ 9) (τ 1 12).toNat four 4)) w0 ∧ n' = n)) args s 0 0 B) (zc_I D B (cw ar b (sA (sA τ 1 (ua (τ 1) 12 tl)) 9 TP) w0) n s.heap) 3 [(0, .ref (b + 1)), (1, .int (iz four)), (2, .int (iz sh9))] [] := by
    intro f
    induction f with
    | zero => intro _ _ _ _ hm; exact absurd hm (Nat.not_lt_zero _)
    | succ f ih3 =>
      intro sh9 tl TP j hm3 hj htl hTP
      refine hv_iload_n C 2 2 dX8_putOnTape_3 rfl rfl ?_
      refine hv_if_lt C 46 dX8_putOnTape_4 (by decide) (by omega) (fun h4 => ?_) (fun h4 => ?_)
      · skip
        exact zt_vret C hr hlk (by first | (exfalso; omega) | (rw [hTP, show j = 4 by omega]; exact congrArg (fun z9 => sA (sA τ 1 (ua (τ 1) 12 z9)) 9 (pt9 (τ 9) (τ 1 12).toNat four 4)) (by omega))) dX8_putOnTape_46
      · skip
        refine hv_aload_n C 0 0 dX8_putOnTape_7 rfl rfl ?_
        refine zc_get C K (v := .int (iz tl)) 12 rfl hu_9 (by decide) (cw_at 1 rfl) rfl fl_X8_84 rfl dX8_putOnTape_8 ?_
        refine hv_sipush C dX8_putOnTape_11 (by decide) ?_
        refine hv_icmp_ge C 46 dX8_putOnTape_14 (by decide) (by omega) (by omega) (fun h14 => ?_) (fun h14 => ?_)
        · skip
          exact zt_vret C hr hlk (by first | (exfalso; omega) | (rw [hTP, show j = 4 by omega]; exact congrArg (fun z9 => sA (sA τ 1 (ua (τ 1) 12 z9)) 9 (pt9 (τ 9) (τ 1 12).toNat four 4)) (by omega))) dX8_putOnTape_46
        · skip
          refine hv_aload_n C 0 0 dX8_putOnTape_17 rfl rfl ?_
          refine zc_get C K (v := .ref (b + 9)) 11 rfl hu_9 (by decide) (cw_at 1 rfl) rfl fl_X8_44 rfl dX8_putOnTape_18 ?_
          refine hv_aload_n C 0 0 dX8_putOnTape_21 rfl rfl ?_
          refine zc_get C K (v := .int (iz tl)) 12 rfl hu_9 (by decide) (cw_at 1 rfl) rfl fl_X8_84 rfl dX8_putOnTape_22 ?_
          refine hv_iload_n C 1 1 dX8_putOnTape_25 rfl rfl ?_
          refine hv_iload_n C 2 2 dX8_putOnTape_26 rfl rfl ?_
          refine hv_ishr C ((sh9 : Int)).toNat (by omega) (by omega) (by omega) dX8_putOnTape_27 ?_
          refine hv_i2b C dX8_putOnTape_28 ?_
          refine zc_bast C K (f := TP) (y := (sb9 (four / 2 ^ ((sh9 : Int)).toNat))) ((tl : Int)).toNat (cw_at 9 rfl) (sb_nar _) (cw_set 9 ((tl : Int)).toNat (sb9 (four / 2 ^ ((sh9 : Int)).toNat)) rfl) (by omega) (by omega) (by decide) dX8_putOnTape_29 ?_
          refine zt_st (τ2 := sA (sA τ 1 (ua (τ 1) 12 tl)) 9 (ua TP ((tl : Int)).toNat (sb9 (four / 2 ^ ((sh9 : Int)).toNat)))) (by rw [u2_sA, sA_sA]; first | done | rfl) ?_
          refine hv_aload_n C 0 0 dX8_putOnTape_30 rfl rfl ?_
          refine hv_dup C dX8_putOnTape_31 rfl ?_
          refine zc_get C K (v := .int (iz tl)) 12 rfl hu_9 (by decide) (cw_at 1 rfl) rfl fl_X8_84 rfl dX8_putOnTape_32 ?_
          refine hv_iconst C dX8_putOnTape_35 ?_
          refine hv_iadd C dX8_putOnTape_36 ?_
          refine zc_put C K 12 rfl hu_9 tyX8 tyX8_ok nmX8 (by decide) (cw_at 1 rfl) (cw_set 1 12 (tl + 1) rfl) fl_X8_84 rfl rfl (ty := .int) (by decide +kernel) rfl rfl (Nat.le_of_ble_eq_true rfl) dX8_putOnTape_37 ?_
          refine zt_st (τ2 := sA (sA τ 1 (ua (τ 1) 12 (tl + 1))) 9 (ua TP ((tl : Int)).toNat (sb9 (four / 2 ^ ((sh9 : Int)).toNat)))) (by rw [u2_sA, sA_comm (j := 9) (k := 1) (by decide), sA_sA]; rw [show (sA (sA τ 1 (ua (τ 1) 12 tl)) 9 (ua TP ((tl : Int)).toNat (sb9 (four / 2 ^ ((sh9 : Int)).toNat)))) 1 = (ua (τ 1) 12 tl) from rfl, ua_ua]; first | done | rfl) ?_
          refine hv_iinc C 2 2 [(2, .int (iz (sh9 + (-8)))), (0, .ref (b + 1)), (1, .int (iz four))] dX8_putOnTape_40 rfl (by decide) rfl ?_
          refine hv_goto C 3 dX8_putOnTape_43 (by decide) ?_
          refine hv_loc [1, 2, 0] [(0, .ref (b + 1)), (1, .int (iz four)), (2, .int (iz (sh9 + (-8))))] rfl ?_
          exact ih3 (sh9 + (-8)) (tl + 1) (ua TP ((tl : Int)).toNat (sb9 (four / 2 ^ ((sh9 : Int)).toNat))) (j + 1) (by omega) (by omega) (by omega) (by rw [show pt9 (τ 9) (τ 1 12).toNat four (j + 1) = ua (pt9 (τ 9) (τ 1 12).toNat four j) ((τ 1 12).toNat + j) (sb9 (four / 2 ^ (24 - 8 * j))) from rfl, ← hTP, show tl.toNat = (τ 1 12).toNat + j by omega, show sh9.toNat = 24 - 8 * j by omega])
  refine hv_loc [1, 2, 0] [(0, .ref (b + 1)), (1, .int (iz four)), (2, .int (iz 24))] rfl ?_
  refine zt_st (τ2 := sA τ 9 (τ 9)) ((sA_id τ 9).symm) ?_
  refine zt_st (τ2 := sA (sA τ 1 (ua (τ 1) 12 (τ 1 12))) 9 (τ 9)) ((fid9 (sA τ 9 (τ 9)) 1 12 (v := τ 1 12) (by rfl)).trans (by rw [sA_comm (j := 9) (k := 1) (by decide)]; first | done | rfl)) ?_
  exact L3 _ 24 (τ 1 12) (τ 9) 0 (Nat.lt_succ_self _) (by omega) (by omega) rfl
