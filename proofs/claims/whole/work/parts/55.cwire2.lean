def tc9 (K : Nat → Int) (s : Int) : Nat → (Nat → Int)
  | 0 => K
  | w + 1 => ua (tc9 K s w) w (tc9 K s w w + s / 2 ^ w % 2 ^ 1)
def jp9 (P : Nat → Int) (x : Nat) : Nat → (Nat → Int)
  | 0 => P
  | t + 1 => if ((x : Nat) : Int) / 2 ^ t % 2 ^ 1 = 1 then ua (jp9 P x t) t (x : Int) else jp9 P x t

theorem dX10_milesOf_0 : decode cX10_milesOf 0 = .ok (.aload_n 0, 1) := by decide +kernel
theorem dX10_milesOf_1 : decode cX10_milesOf 1 = .ok (.getfield 9, 3) := by decide +kernel
theorem dX10_milesOf_4 : decode cX10_milesOf 4 = .ok (.iload_n 2, 1) := by decide +kernel
theorem dX10_milesOf_5 : decode cX10_milesOf 5 = .ok (.iaload, 1) := by decide +kernel
theorem dX10_milesOf_6 : decode cX10_milesOf 6 = .ok (.iconst (-1), 1) := by decide +kernel
theorem dX10_milesOf_7 : decode cX10_milesOf 7 = .ok (.if_icmp .ne 5, 3) := by decide +kernel
theorem dX10_milesOf_10 : decode cX10_milesOf 10 = .ok (.iconst (-1), 1) := by decide +kernel
theorem dX10_milesOf_11 : decode cX10_milesOf 11 = .ok (.ireturn, 1) := by decide +kernel
theorem dX10_milesOf_12 : decode cX10_milesOf 12 = .ok (.iconst 0, 1) := by decide +kernel
theorem dX10_milesOf_13 : decode cX10_milesOf 13 = .ok (.istore_n 3, 1) := by decide +kernel
theorem dX10_milesOf_14 : decode cX10_milesOf 14 = .ok (.iconst 0, 1) := by decide +kernel
theorem dX10_milesOf_15 : decode cX10_milesOf 15 = .ok (.istore 4, 2) := by decide +kernel
theorem dX10_milesOf_17 : decode cX10_milesOf 17 = .ok (.iload 4, 2) := by decide +kernel
theorem dX10_milesOf_19 : decode cX10_milesOf 19 = .ok (.aload_n 1, 1) := by decide +kernel
theorem dX10_milesOf_20 : decode cX10_milesOf 20 = .ok (.getfield 86, 3) := by decide +kernel
theorem dX10_milesOf_23 : decode cX10_milesOf 23 = .ok (.invokevirtual 41, 3) := by decide +kernel
theorem dX10_milesOf_26 : decode cX10_milesOf 26 = .ok (.if_icmp .ge 42, 3) := by decide +kernel
theorem dX10_milesOf_29 : decode cX10_milesOf 29 = .ok (.aload_n 0, 1) := by decide +kernel
theorem dX10_milesOf_30 : decode cX10_milesOf 30 = .ok (.getfield 9, 3) := by decide +kernel
theorem dX10_milesOf_33 : decode cX10_milesOf 33 = .ok (.iload_n 2, 1) := by decide +kernel
theorem dX10_milesOf_34 : decode cX10_milesOf 34 = .ok (.iaload, 1) := by decide +kernel
theorem dX10_milesOf_35 : decode cX10_milesOf 35 = .ok (.iload 4, 2) := by decide +kernel
theorem dX10_milesOf_37 : decode cX10_milesOf 37 = .ok (.ishr, 1) := by decide +kernel
theorem dX10_milesOf_38 : decode cX10_milesOf 38 = .ok (.iconst 1, 1) := by decide +kernel
theorem dX10_milesOf_39 : decode cX10_milesOf 39 = .ok (.iand, 1) := by decide +kernel
theorem dX10_milesOf_40 : decode cX10_milesOf 40 = .ok (.iconst 1, 1) := by decide +kernel
theorem dX10_milesOf_41 : decode cX10_milesOf 41 = .ok (.if_icmp .ne 21, 3) := by decide +kernel
theorem dX10_milesOf_44 : decode cX10_milesOf 44 = .ok (.iload_n 3, 1) := by decide +kernel
theorem dX10_milesOf_45 : decode cX10_milesOf 45 = .ok (.aload_n 1, 1) := by decide +kernel
theorem dX10_milesOf_46 : decode cX10_milesOf 46 = .ok (.getfield 86, 3) := by decide +kernel
theorem dX10_milesOf_49 : decode cX10_milesOf 49 = .ok (.iload 4, 2) := by decide +kernel
theorem dX10_milesOf_51 : decode cX10_milesOf 51 = .ok (.invokevirtual 54, 3) := by decide +kernel
theorem dX10_milesOf_54 : decode cX10_milesOf 54 = .ok (.checkcast 89, 3) := by decide +kernel
theorem dX10_milesOf_57 : decode cX10_milesOf 57 = .ok (.getfield 91, 3) := by decide +kernel
theorem dX10_milesOf_60 : decode cX10_milesOf 60 = .ok (.iadd, 1) := by decide +kernel
theorem dX10_milesOf_61 : decode cX10_milesOf 61 = .ok (.istore_n 3, 1) := by decide +kernel
theorem dX10_milesOf_62 : decode cX10_milesOf 62 = .ok (.iinc 4 1, 3) := by decide +kernel
theorem dX10_milesOf_65 : decode cX10_milesOf 65 = .ok (.goto (-48), 3) := by decide +kernel
theorem dX10_milesOf_68 : decode cX10_milesOf 68 = .ok (.iload_n 3, 1) := by decide +kernel
theorem dX10_milesOf_69 : decode cX10_milesOf 69 = .ok (.ireturn, 1) := by decide +kernel
theorem fl_X10_86 : Cond.fieldLink RX10 86 "HookUps$Told" (TX8 1).2.1 (TX8 1).2.2.1 ∈ hk_tb := hk_tq1 128 (by decide +kernel) (by decide +kernel)
theorem ck_X10_41 : zcV RX10 RJx4a65c yJx4a65c_size_8abf5 cJx4a65c_size_8abf5 1 (some .int) 41 0 := ⟨hk_tq2 102 (by decide +kernel) (by decide +kernel), hk_tq4 152 (by decide +kernel) (by decide +kernel), hk_tq1 5 (by decide +kernel) (by decide +kernel), ⟨by decide, by decide, by decide +kernel⟩, hk_tq2 100 (by decide +kernel) (by decide +kernel), hk_tq2 101 (by decide +kernel) (by decide +kernel)⟩
theorem ck_X10_54 : zcV RX10 RJx4a65c yJx4a65c_get_915e3 cJx4a65c_get_915e3 2 (some (.object "java/lang/Object")) 54 1 := ⟨hk_tq3 64 (by decide +kernel) (by decide +kernel), hk_tq4 153 (by decide +kernel) (by decide +kernel), hk_tq1 5 (by decide +kernel) (by decide +kernel), ⟨by decide, by decide, by decide +kernel⟩, hk_tq3 62 (by decide +kernel) (by decide +kernel), hk_tq3 63 (by decide +kernel) (by decide +kernel)⟩
theorem cl_X10_89 : Cond.classLink RX10 89 RX9 ∈ hk_tb := hk_tq4 154 (by decide +kernel) (by decide +kernel)
theorem fl_X10_91 : Cond.fieldLink RX10 91 "HookUps$Wire" (TX9 2).2.1 (TX9 2).2.2.1 ∈ hk_tb := hk_tq2 121 (by decide +kernel) (by decide +kernel)
set_option maxRecDepth 100000 in
set_option maxHeartbeats 4000000 in
theorem k_X10_milesOf_wa (l : Launch) {D : va_G} {ar : Nat → ClassId} {B : Nat → Prop} {b n : Nat} {w0 : zcW} (A : Nat → Int) (τ : Nat → Nat → Int) (h : Nat) (hA : ∀ i, inI (A i)) (hR : Rel9 ar b w0 A τ) (hc : cn A) (hwi : wi A) (hh9 : h < 24) (hst : ∀ q, q < 24 → -1 ≤ τ 25 q ∧ τ 25 q ≤ 4095) : zt_M l D ar B b w0 n yX10_milesOf cX10_milesOf 5 (some .int) 3 64 [.ref (b + 24), .ref (b + 1), .int (iz ((h : Nat) : Int))] τ (some (.int (iz (if τ 25 h < 0 then -1 else ml A (τ 25 h) (A 1).toNat)))) (τ) := by
  refine zc_start (own := RX10) (by decide +kernel) rfl (Nat.le_of_ble_eq_true rfl) ?_
  intro p e s m args below meth c C K hr hlk hnam
  have zq := hst h hh9
  have n2 := hR.l2.1
  refine hv_aload_n C 0 0 dX10_milesOf_0 rfl rfl ?_
  refine zc_get C K (v := .ref (b + 25)) 0 rfl hu_11 (by decide) (cw_at 24 rfl) rfl fl_X10_9 rfl dX10_milesOf_1 ?_
  refine hv_iload_n C 2 2 dX10_milesOf_4 rfl rfl ?_
  refine zc_iald C K (f := (τ 25)) h (cw_at 25 rfl) (by omega) (by omega) (by decide) dX10_milesOf_5 ?_
  refine hv_as (τ 25 h) rfl ?_
  refine hv_iconst C dX10_milesOf_6 ?_
  refine hv_icmp_ne C 12 dX10_milesOf_7 (by decide) (by omega) (by omega) (fun h7 => ?_) (fun h7 => ?_)
  · skip
    refine hv_iconst C dX10_milesOf_12 ?_
    refine hv_istore_n C 3 [(3, .int (iz 0)), (0, .ref (b + 24)), (1, .ref (b + 1)), (2, .int (iz ((h : Nat) : Int)))] dX10_milesOf_13 rfl (by decide) rfl ?_
    refine hv_iconst C dX10_milesOf_14 ?_
    refine hv_istore C 4 [(4, .int (iz 0)), (3, .int (iz 0)), (0, .ref (b + 24)), (1, .ref (b + 1)), (2, .int (iz ((h : Nat) : Int)))] dX10_milesOf_15 (by decide) rfl ?_
    have L17 : ∀ (f : Nat) (sm : Int) (w : Nat), (A 1).toNat - w < f → ((w : Int) ≤ A 1) → (sm = ml A (τ 25 h) w) → hvV p l e { frames := 3, cells := 0, slots := 0, locals := 64 } s m args below meth c 5 B 0 0 (MQ below (zc_Q D B (fun r' w' n' => r' = (some (.int (iz (if τ 25 h < 0 then -1 else ml A (τ 25 h) (A 1).toNat)))) ∧ w' = cw ar b (τ) w0 ∧ n' = n)) args s 0 0 B) (zc_I D B (cw ar b τ w0) n s.heap) 17 [(0, .ref (b + 24)), (1, .ref (b + 1)), (2, .int (iz ((h : Nat) : Int))), (3, .int (iz sm)), (4, .int (iz ((w : Nat) : Int)))] [] := by
      intro f
      induction f with
      | zero => intro _ _ hm; exact absurd hm (Nat.not_lt_zero _)
      | succ f ih17 =>
        intro sm w hm17 hw hsm
        refine hv_iload C 4 4 dX10_milesOf_17 rfl ?_
        refine hv_aload_n C 1 1 dX10_milesOf_19 rfl rfl ?_
        refine zc_get C K (v := .ref (b + 2)) 1 rfl hu_9 (by decide) (cw_at 1 rfl) rfl fl_X10_86 rfl dX10_milesOf_20 ?_
        refine zt_callV [] [.int (iz ((w : Nat) : Int))] C K (cw_at 2 rfl) rfl (k_Jx4a65c_size_8abf5 l 2 τ  rfl) ck_X10_41 (by decide) ⟨Nat.zero_le _, Nat.zero_le _⟩ rfl (Nat.le_of_ble_eq_true rfl) dX10_milesOf_23 ?_
        refine hv_as ((τ 2 2)) rfl ?_
        refine hv_nm (fun x1 ex1 => ?_)
        have rx1 : inI x1 := by rw [ex1]; exact (by have z := hA 1; omega)
        refine hv_icmp_ge C 68 dX10_milesOf_26 (by decide) (by omega) (by omega) (fun h26 => ?_) (fun h26 => ?_)
        · skip
          refine hv_iload_n C 3 3 dX10_milesOf_68 rfl rfl ?_
          exact zt_iret C hr hlk (by first | exact if_p (by omega) rfl | (refine if_n (by omega) ?_; rw [hsm, show (A 1).toNat = w by omega])) rfl dX10_milesOf_69
        · skip
          refine hv_aload_n C 0 0 dX10_milesOf_29 rfl rfl ?_
          refine zc_get C K (v := .ref (b + 25)) 0 rfl hu_11 (by decide) (cw_at 24 rfl) rfl fl_X10_9 rfl dX10_milesOf_30 ?_
          refine hv_iload_n C 2 2 dX10_milesOf_33 rfl rfl ?_
          refine zc_iald C K (f := (τ 25)) h (cw_at 25 rfl) (by omega) (by omega) (by decide) dX10_milesOf_34 ?_
          refine hv_as (τ 25 h) rfl ?_
          refine hv_iload C 4 4 dX10_milesOf_35 rfl ?_
          refine hv_ishr C w (by omega) (by omega) (by omega) dX10_milesOf_37 ?_
          refine hv_iconst C dX10_milesOf_38 ?_
          refine hv_imsk C 1 (by decide) (by decide) dX10_milesOf_39 ?_
          refine hv_iconst C dX10_milesOf_40 ?_
          refine hv_icmp_ne C 62 dX10_milesOf_41 (by decide) (by omega) (by omega) (fun h41 => ?_) (fun h41 => ?_)
          · skip
            refine hv_iinc C 4 4 [(4, .int (iz (((w : Nat) : Int) + 1))), (0, .ref (b + 24)), (1, .ref (b + 1)), (2, .int (iz ((h : Nat) : Int))), (3, .int (iz sm))] dX10_milesOf_62 rfl (by decide) rfl ?_
            refine hv_goto C 17 dX10_milesOf_65 (by decide) ?_
            refine hv_loc [1, 2, 3, 4, 0] [(0, .ref (b + 24)), (1, .ref (b + 1)), (2, .int (iz ((h : Nat) : Int))), (3, .int (iz sm)), (4, .int (iz (((w : Nat) : Int) + 1)))] rfl ?_
            exact ih17 sm (w + 1) (by omega) (by omega) (by rw [hsm, ml]; first | (rw [if_pos (by omega)]; first | done | omega) | (rw [if_neg (by omega)]; omega))
          · skip
            refine hv_iload_n C 3 3 dX10_milesOf_44 rfl rfl ?_
            refine hv_aload_n C 1 1 dX10_milesOf_45 rfl rfl ?_
            refine zc_get C K (v := .ref (b + 2)) 1 rfl hu_9 (by decide) (cw_at 1 rfl) rfl fl_X10_86 rfl dX10_milesOf_46 ?_
            refine hv_iload C 4 4 dX10_milesOf_49 rfl ?_
            obtain ⟨p2, i2, o2⟩ := (hR : Rel9 ar b w0 A τ).l2.2 w (by omega)
            refine zt_callV [.int (iz ((w : Nat) : Int))] [.int (iz sm)] C K (cw_at 2 rfl) rfl (k_Jx4a65c_get_915e3 l 2 p2 τ w rfl i2) ck_X10_54 (by decide) ⟨Nat.zero_le _, Nat.zero_le _⟩ rfl (Nat.le_of_ble_eq_true rfl) dX10_milesOf_51 ?_
            refine zc_cast C K (cw_ob o2) (hc := rfl) cl_X10_89 dX10_milesOf_54 ?_
            refine zc_get C K (v := .int (iz (A (30 + 4 * w + 2)))) 2 rfl hu_10 (by decide) (cw_ob o2) rfl fl_X10_91 rfl dX10_milesOf_57 ?_
            refine hv_nm (fun x3 ex3 => ?_)
            have rx3 : inI x3 := by rw [ex3]; exact (hA _)
            refine hv_iadd C dX10_milesOf_60 ?_
            refine hv_istore_n C 3 [(3, .int (iz (sm + x3))), (0, .ref (b + 24)), (1, .ref (b + 1)), (2, .int (iz ((h : Nat) : Int))), (4, .int (iz ((w : Nat) : Int)))] dX10_milesOf_61 rfl (by decide) rfl ?_
            refine hv_iinc C 4 4 [(4, .int (iz (((w : Nat) : Int) + 1))), (3, .int (iz (sm + x3))), (0, .ref (b + 24)), (1, .ref (b + 1)), (2, .int (iz ((h : Nat) : Int)))] dX10_milesOf_62 rfl (by decide) rfl ?_
            refine hv_goto C 17 dX10_milesOf_65 (by decide) ?_
            refine hv_loc [2, 3, 4, 1, 0] [(0, .ref (b + 24)), (1, .ref (b + 1)), (2, .int (iz ((h : Nat) : Int))), (3, .int (iz (sm + x3))), (4, .int (iz (((w : Nat) : Int) + 1)))] rfl ?_
            exact ih17 (sm + x3) (w + 1) (by omega) (by omega) (by rw [hsm, ml]; first | (rw [if_pos (by omega)]; first | done | omega) | (rw [if_neg (by omega)]; omega))
    refine hv_loc [2, 3, 4, 1, 0] [(0, .ref (b + 24)), (1, .ref (b + 1)), (2, .int (iz ((h : Nat) : Int))), (3, .int (iz 0)), (4, .int (iz 0))] rfl ?_
    exact L17 _ 0 0 (Nat.lt_succ_self _) (by omega) rfl
  · skip
    refine hv_iconst C dX10_milesOf_10 ?_
    exact zt_iret C hr hlk (by first | exact if_p (by omega) rfl | (refine if_n (by omega) ?_; rw [hsm, show (A 1).toNat = w by omega])) rfl dX10_milesOf_11
theorem dX10_takeCircuits_0 : decode cX10_takeCircuits 0 = .ok (.iconst 0, 1) := by decide +kernel
theorem dX10_takeCircuits_1 : decode cX10_takeCircuits 1 = .ok (.istore_n 2, 1) := by decide +kernel
theorem dX10_takeCircuits_2 : decode cX10_takeCircuits 2 = .ok (.iload_n 1, 1) := by decide +kernel
theorem dX10_takeCircuits_3 : decode cX10_takeCircuits 3 = .ok (.iconst (-1), 1) := by decide +kernel
theorem dX10_takeCircuits_4 : decode cX10_takeCircuits 4 = .ok (.if_icmp .eq 29, 3) := by decide +kernel
theorem dX10_takeCircuits_7 : decode cX10_takeCircuits 7 = .ok (.iload_n 2, 1) := by decide +kernel
theorem dX10_takeCircuits_8 : decode cX10_takeCircuits 8 = .ok (.bipush 12, 2) := by decide +kernel
theorem dX10_takeCircuits_10 : decode cX10_takeCircuits 10 = .ok (.if_icmp .ge 23, 3) := by decide +kernel
theorem dX10_takeCircuits_13 : decode cX10_takeCircuits 13 = .ok (.aload_n 0, 1) := by decide +kernel
theorem dX10_takeCircuits_14 : decode cX10_takeCircuits 14 = .ok (.getfield 18, 3) := by decide +kernel
theorem dX10_takeCircuits_17 : decode cX10_takeCircuits 17 = .ok (.iload_n 2, 1) := by decide +kernel
theorem dX10_takeCircuits_18 : decode cX10_takeCircuits 18 = .ok (.dup2, 1) := by decide +kernel
theorem dX10_takeCircuits_19 : decode cX10_takeCircuits 19 = .ok (.iaload, 1) := by decide +kernel
theorem dX10_takeCircuits_20 : decode cX10_takeCircuits 20 = .ok (.iload_n 1, 1) := by decide +kernel
theorem dX10_takeCircuits_21 : decode cX10_takeCircuits 21 = .ok (.iload_n 2, 1) := by decide +kernel
theorem dX10_takeCircuits_22 : decode cX10_takeCircuits 22 = .ok (.ishr, 1) := by decide +kernel
theorem dX10_takeCircuits_23 : decode cX10_takeCircuits 23 = .ok (.iconst 1, 1) := by decide +kernel
theorem dX10_takeCircuits_24 : decode cX10_takeCircuits 24 = .ok (.iand, 1) := by decide +kernel
theorem dX10_takeCircuits_25 : decode cX10_takeCircuits 25 = .ok (.iadd, 1) := by decide +kernel
theorem dX10_takeCircuits_26 : decode cX10_takeCircuits 26 = .ok (.iastore, 1) := by decide +kernel
theorem dX10_takeCircuits_27 : decode cX10_takeCircuits 27 = .ok (.iinc 2 1, 3) := by decide +kernel
theorem dX10_takeCircuits_30 : decode cX10_takeCircuits 30 = .ok (.goto (-28), 3) := by decide +kernel
theorem dX10_takeCircuits_33 : decode cX10_takeCircuits 33 = .ok (.return_, 1) := by decide +kernel
theorem fl_X10_18 : Cond.fieldLink RX10 18 "HookUps$Wiring" (TX10 2).2.1 (TX10 2).2.2.1 ∈ hk_tb := hk_tq1 217 (by decide +kernel) (by decide +kernel)
set_option maxRecDepth 100000 in
set_option maxHeartbeats 4000000 in
theorem k_X10_takeCircuits_wa (l : Launch) {D : va_G} {ar : Nat → ClassId} {B : Nat → Prop} {b n : Nat} {w0 : zcW}  (τ : Nat → Nat → Int) (s9 : Int) (hs9 : -1 ≤ s9 ∧ s9 ≤ 4095) : zt_M l D ar B b w0 n yX10_takeCircuits cX10_takeCircuits 3 none 0 0 [.ref (b + 24), .int (iz s9)] τ none (sA τ 27 (if s9 = -1 then (τ 27) else tc9 (τ 27) s9 12)) := by
  refine zc_start (own := RX10) (by decide +kernel) rfl (Nat.le_of_ble_eq_true rfl) ?_
  intro p e s m args below meth c C K hr hlk hnam
  refine hv_iconst C dX10_takeCircuits_0 ?_
  refine hv_istore_n C 2 [(2, .int (iz 0)), (0, .ref (b + 24)), (1, .int (iz s9))] dX10_takeCircuits_1 rfl (by decide) rfl ?_
  have L2 : ∀ (f : Nat) (w : Nat) (K9 : Nat → Int), 12 - w < f → (w ≤ 12 ∧ (s9 = -1 → w = 0)) → (K9 = tc9 (τ 27) s9 w) → hvV p l e { frames := 0, cells := 0, slots := 0, locals := 0 } s m args below meth c 3 B 0 0 (MQ below (zc_Q D B (fun r' w' n' => r' = none ∧ w' = cw ar b (sA τ 27 (if s9 = -1 then (τ 27) else tc9 (τ 27) s9 12)) w0 ∧ n' = n)) args s 0 0 B) (zc_I D B (cw ar b (sA τ 27 K9) w0) n s.heap) 2 [(0, .ref (b + 24)), (1, .int (iz s9)), (2, .int (iz ((w : Nat) : Int)))] [] := by
    intro f
    induction f with
    | zero => intro _ _ hm; exact absurd hm (Nat.not_lt_zero _)
    | succ f ih2 =>
      intro w K9 hm2 hw hK9
      refine hv_iload_n C 1 1 dX10_takeCircuits_2 rfl rfl ?_
      refine hv_iconst C dX10_takeCircuits_3 ?_
      refine hv_icmp_eq C 33 dX10_takeCircuits_4 (by decide) (by omega) (by omega) (fun h4 => ?_) (fun h4 => ?_)
      · skip
        exact zt_vret C hr hlk (by first | (rw [if_pos (by omega), hK9, show w = 0 by omega]; rfl) | (rw [if_neg (by omega), hK9, show w = 12 by omega])) dX10_takeCircuits_33
      · skip
        refine hv_iload_n C 2 2 dX10_takeCircuits_7 rfl rfl ?_
        refine hv_bipush C dX10_takeCircuits_8 (by decide) ?_
        refine hv_icmp_ge C 33 dX10_takeCircuits_10 (by decide) (by omega) (by omega) (fun h10 => ?_) (fun h10 => ?_)
        · skip
          exact zt_vret C hr hlk (by first | (rw [if_pos (by omega), hK9, show w = 0 by omega]; rfl) | (rw [if_neg (by omega), hK9, show w = 12 by omega])) dX10_takeCircuits_33
        · skip
          refine hv_aload_n C 0 0 dX10_takeCircuits_13 rfl rfl ?_
          refine zc_get C K (v := .ref (b + 27)) 2 rfl hu_11 (by decide) (cw_at 24 rfl) rfl fl_X10_18 rfl dX10_takeCircuits_14 ?_
          refine hv_iload_n C 2 2 dX10_takeCircuits_17 rfl rfl ?_
          refine hv_dup2 C dX10_takeCircuits_18 rfl rfl ?_
          refine zc_iald C K (f := K9) w (cw_at 27 rfl) (by omega) (by omega) (by decide) dX10_takeCircuits_19 ?_
          refine hv_iload_n C 1 1 dX10_takeCircuits_20 rfl rfl ?_
          refine hv_iload_n C 2 2 dX10_takeCircuits_21 rfl rfl ?_
          refine hv_ishr C w (by omega) (by omega) (by omega) dX10_takeCircuits_22 ?_
          refine hv_iconst C dX10_takeCircuits_23 ?_
          refine hv_imsk C 1 (by decide) (by decide) dX10_takeCircuits_24 ?_
          refine hv_iadd C dX10_takeCircuits_25 ?_
          refine zc_iast C K (f := K9) w (cw_at 27 rfl) (cw_set 27 w ((K9 w) + ((s9 / 2 ^ w) % 2 ^ 1)) rfl) (by omega) (by omega) (by decide) dX10_takeCircuits_26 ?_
          refine zt_st (τ2 := sA τ 27 (ua K9 w ((K9 w) + ((s9 / 2 ^ w) % 2 ^ 1)))) (by rw [u2_sA, sA_sA]; first | done | rfl) ?_
          refine hv_iinc C 2 2 [(2, .int (iz (((w : Nat) : Int) + 1))), (0, .ref (b + 24)), (1, .int (iz s9))] dX10_takeCircuits_27 rfl (by decide) rfl ?_
          refine hv_goto C 2 dX10_takeCircuits_30 (by decide) ?_
          refine hv_loc [1, 2, 0] [(0, .ref (b + 24)), (1, .int (iz s9)), (2, .int (iz (((w : Nat) : Int) + 1)))] rfl ?_
          exact ih2 (w + 1) (ua K9 w ((K9 w) + ((s9 / 2 ^ w) % 2 ^ 1))) (by omega) (by omega) (by rw [hK9]; rfl)
  refine hv_loc [1, 2, 0] [(0, .ref (b + 24)), (1, .int (iz s9)), (2, .int (iz 0))] rfl ?_
  refine zt_st (τ2 := sA τ 27 (τ 27)) ((sA_id τ 27).symm) ?_
  exact L2 _ 0 (τ 27) (Nat.lt_succ_self _) (by omega) rfl
theorem dX10_joinParts_0 : decode cX10_joinParts 0 = .ok (.iconst 0, 1) := by decide +kernel
theorem dX10_joinParts_1 : decode cX10_joinParts 1 = .ok (.istore_n 2, 1) := by decide +kernel
theorem dX10_joinParts_2 : decode cX10_joinParts 2 = .ok (.iload_n 2, 1) := by decide +kernel
theorem dX10_joinParts_3 : decode cX10_joinParts 3 = .ok (.bipush 8, 2) := by decide +kernel
theorem dX10_joinParts_5 : decode cX10_joinParts 5 = .ok (.if_icmp .ge 25, 3) := by decide +kernel
theorem dX10_joinParts_8 : decode cX10_joinParts 8 = .ok (.iload_n 1, 1) := by decide +kernel
theorem dX10_joinParts_9 : decode cX10_joinParts 9 = .ok (.iload_n 2, 1) := by decide +kernel
theorem dX10_joinParts_10 : decode cX10_joinParts 10 = .ok (.ishr, 1) := by decide +kernel
theorem dX10_joinParts_11 : decode cX10_joinParts 11 = .ok (.iconst 1, 1) := by decide +kernel
theorem dX10_joinParts_12 : decode cX10_joinParts 12 = .ok (.iand, 1) := by decide +kernel
theorem dX10_joinParts_13 : decode cX10_joinParts 13 = .ok (.iconst 1, 1) := by decide +kernel
theorem dX10_joinParts_14 : decode cX10_joinParts 14 = .ok (.if_icmp .ne 10, 3) := by decide +kernel
theorem dX10_joinParts_17 : decode cX10_joinParts 17 = .ok (.aload_n 0, 1) := by decide +kernel
theorem dX10_joinParts_18 : decode cX10_joinParts 18 = .ok (.getfield 24, 3) := by decide +kernel
theorem dX10_joinParts_21 : decode cX10_joinParts 21 = .ok (.iload_n 2, 1) := by decide +kernel
theorem dX10_joinParts_22 : decode cX10_joinParts 22 = .ok (.iload_n 1, 1) := by decide +kernel
theorem dX10_joinParts_23 : decode cX10_joinParts 23 = .ok (.iastore, 1) := by decide +kernel
theorem dX10_joinParts_24 : decode cX10_joinParts 24 = .ok (.iinc 2 1, 3) := by decide +kernel
theorem dX10_joinParts_27 : decode cX10_joinParts 27 = .ok (.goto (-25), 3) := by decide +kernel
theorem dX10_joinParts_30 : decode cX10_joinParts 30 = .ok (.iload_n 1, 1) := by decide +kernel
theorem dX10_joinParts_31 : decode cX10_joinParts 31 = .ok (.ireturn, 1) := by decide +kernel
theorem fl_X10_24 : Cond.fieldLink RX10 24 "HookUps$Wiring" (TX10 4).2.1 (TX10 4).2.2.1 ∈ hk_tb := hk_tq1 219 (by decide +kernel) (by decide +kernel)
set_option maxRecDepth 100000 in
set_option maxHeartbeats 4000000 in
theorem k_X10_joinParts_wa (l : Launch) {D : va_G} {ar : Nat → ClassId} {B : Nat → Prop} {b n : Nat} {w0 : zcW}  (τ : Nat → Nat → Int) (x : Nat) (hx9 : x < 256) : zt_M l D ar B b w0 n yX10_joinParts cX10_joinParts 3 (some .int) 0 0 [.ref (b + 24), .int (iz ((x : Nat) : Int))] τ (some (.int (iz ((x : Nat) : Int)))) (sA τ 29 (jp9 (τ 29) x 8)) := by
  refine zc_start (own := RX10) (by decide +kernel) rfl (Nat.le_of_ble_eq_true rfl) ?_
  intro p e s m args below meth c C K hr hlk hnam
  refine hv_iconst C dX10_joinParts_0 ?_
  refine hv_istore_n C 2 [(2, .int (iz 0)), (0, .ref (b + 24)), (1, .int (iz ((x : Nat) : Int)))] dX10_joinParts_1 rfl (by decide) rfl ?_
  have L2 : ∀ (f : Nat) (t : Nat) (P9 : Nat → Int), 8 - t < f → (t ≤ 8) → (P9 = jp9 (τ 29) x t) → hvV p l e { frames := 0, cells := 0, slots := 0, locals := 0 } s m args below meth c 3 B 0 0 (MQ below (zc_Q D B (fun r' w' n' => r' = (some (.int (iz ((x : Nat) : Int)))) ∧ w' = cw ar b (sA τ 29 (jp9 (τ 29) x 8)) w0 ∧ n' = n)) args s 0 0 B) (zc_I D B (cw ar b (sA τ 29 P9) w0) n s.heap) 2 [(0, .ref (b + 24)), (1, .int (iz ((x : Nat) : Int))), (2, .int (iz ((t : Nat) : Int)))] [] := by
    intro f
    induction f with
    | zero => intro _ _ hm; exact absurd hm (Nat.not_lt_zero _)
    | succ f ih2 =>
      intro t P9 hm2 ht hP9
      refine hv_iload_n C 2 2 dX10_joinParts_2 rfl rfl ?_
      refine hv_bipush C dX10_joinParts_3 (by decide) ?_
      refine hv_icmp_ge C 30 dX10_joinParts_5 (by decide) (by omega) (by omega) (fun h5 => ?_) (fun h5 => ?_)
      · skip
        refine hv_iload_n C 1 1 dX10_joinParts_30 rfl rfl ?_
        exact zt_iret C hr hlk rfl (by rw [hP9, show t = 8 by omega]) dX10_joinParts_31
      · skip
        refine hv_iload_n C 1 1 dX10_joinParts_8 rfl rfl ?_
        refine hv_iload_n C 2 2 dX10_joinParts_9 rfl rfl ?_
        refine hv_ishr C t (by omega) (by omega) (by omega) dX10_joinParts_10 ?_
        refine hv_iconst C dX10_joinParts_11 ?_
        refine hv_imsk C 1 (by decide) (by decide) dX10_joinParts_12 ?_
        refine hv_iconst C dX10_joinParts_13 ?_
        refine hv_icmp_ne C 24 dX10_joinParts_14 (by decide) (by omega) (by omega) (fun h14 => ?_) (fun h14 => ?_)
        · skip
          refine hv_iinc C 2 2 [(2, .int (iz (((t : Nat) : Int) + 1))), (0, .ref (b + 24)), (1, .int (iz ((x : Nat) : Int)))] dX10_joinParts_24 rfl (by decide) rfl ?_
          refine hv_goto C 2 dX10_joinParts_27 (by decide) ?_
          refine hv_loc [1, 2, 0] [(0, .ref (b + 24)), (1, .int (iz ((x : Nat) : Int))), (2, .int (iz (((t : Nat) : Int) + 1)))] rfl ?_
          exact ih2 (t + 1) P9 (by omega) (by omega) (by rw [hP9, jp9]; first | (rw [if_pos (by omega)]; done) | (rw [if_neg (by omega)]; done))
        · skip
          refine hv_aload_n C 0 0 dX10_joinParts_17 rfl rfl ?_
          refine zc_get C K (v := .ref (b + 29)) 4 rfl hu_11 (by decide) (cw_at 24 rfl) rfl fl_X10_24 rfl dX10_joinParts_18 ?_
          refine hv_iload_n C 2 2 dX10_joinParts_21 rfl rfl ?_
          refine hv_iload_n C 1 1 dX10_joinParts_22 rfl rfl ?_
          refine zc_iast C K (f := P9) t (cw_at 29 rfl) (cw_set 29 t ((x : Nat) : Int) rfl) (by omega) (by omega) (by decide) dX10_joinParts_23 ?_
          refine zt_st (τ2 := sA τ 29 (ua P9 t ((x : Nat) : Int))) (by rw [u2_sA, sA_sA]; first | done | rfl) ?_
          refine hv_iinc C 2 2 [(2, .int (iz (((t : Nat) : Int) + 1))), (0, .ref (b + 24)), (1, .int (iz ((x : Nat) : Int)))] dX10_joinParts_24 rfl (by decide) rfl ?_
          refine hv_goto C 2 dX10_joinParts_27 (by decide) ?_
          refine hv_loc [1, 2, 0] [(0, .ref (b + 24)), (1, .int (iz ((x : Nat) : Int))), (2, .int (iz (((t : Nat) : Int) + 1)))] rfl ?_
          exact ih2 (t + 1) (ua P9 t ((x : Nat) : Int)) (by omega) (by omega) (by rw [hP9, jp9]; first | (rw [if_pos (by omega)]; done) | (rw [if_neg (by omega)]; done))
  refine hv_loc [1, 2, 0] [(0, .ref (b + 24)), (1, .int (iz ((x : Nat) : Int))), (2, .int (iz 0))] rfl ?_
  refine zt_st (τ2 := sA τ 29 (τ 29)) ((sA_id τ 29).symm) ?_
  exact L2 _ 0 (τ 29) (Nat.lt_succ_self _) (by omega) rfl
set_option maxRecDepth 100000 in
set_option maxHeartbeats 4000000 in
theorem k_X10_takeCircuits_wb (l : Launch) {D : va_G} {ar : Nat → ClassId} {B : Nat → Prop} {b n : Nat} {w0 : zcW}  (τ : Nat → Nat → Int) (s9 : Int) (hs9 : -1 ≤ s9 ∧ s9 ≤ 4095) : zt_M l D ar B b w0 n yX10_takeCircuits cX10_takeCircuits 3 none 0 0 [.ref (b + 30), .int (iz s9)] τ none (sA τ 33 (if s9 = -1 then (τ 33) else tc9 (τ 33) s9 12)) := by
  refine zc_start (own := RX10) (by decide +kernel) rfl (Nat.le_of_ble_eq_true rfl) ?_
  intro p e s m args below meth c C K hr hlk hnam
  refine hv_iconst C dX10_takeCircuits_0 ?_
  refine hv_istore_n C 2 [(2, .int (iz 0)), (0, .ref (b + 30)), (1, .int (iz s9))] dX10_takeCircuits_1 rfl (by decide) rfl ?_
  have L2 : ∀ (f : Nat) (w : Nat) (K9 : Nat → Int), 12 - w < f → (w ≤ 12 ∧ (s9 = -1 → w = 0)) → (K9 = tc9 (τ 33) s9 w) → hvV p l e { frames := 0, cells := 0, slots := 0, locals := 0 } s m args below meth c 3 B 0 0 (MQ below (zc_Q D B (fun r' w' n' => r' = none ∧ w' = cw ar b (sA τ 33 (if s9 = -1 then (τ 33) else tc9 (τ 33) s9 12)) w0 ∧ n' = n)) args s 0 0 B) (zc_I D B (cw ar b (sA τ 33 K9) w0) n s.heap) 2 [(0, .ref (b + 30)), (1, .int (iz s9)), (2, .int (iz ((w : Nat) : Int)))] [] := by
    intro f
    induction f with
    | zero => intro _ _ hm; exact absurd hm (Nat.not_lt_zero _)
    | succ f ih2 =>
      intro w K9 hm2 hw hK9
      refine hv_iload_n C 1 1 dX10_takeCircuits_2 rfl rfl ?_
      refine hv_iconst C dX10_takeCircuits_3 ?_
      refine hv_icmp_eq C 33 dX10_takeCircuits_4 (by decide) (by omega) (by omega) (fun h4 => ?_) (fun h4 => ?_)
      · skip
        exact zt_vret C hr hlk (by first | (rw [if_pos (by omega), hK9, show w = 0 by omega]; rfl) | (rw [if_neg (by omega), hK9, show w = 12 by omega])) dX10_takeCircuits_33
      · skip
        refine hv_iload_n C 2 2 dX10_takeCircuits_7 rfl rfl ?_
        refine hv_bipush C dX10_takeCircuits_8 (by decide) ?_
        refine hv_icmp_ge C 33 dX10_takeCircuits_10 (by decide) (by omega) (by omega) (fun h10 => ?_) (fun h10 => ?_)
        · skip
          exact zt_vret C hr hlk (by first | (rw [if_pos (by omega), hK9, show w = 0 by omega]; rfl) | (rw [if_neg (by omega), hK9, show w = 12 by omega])) dX10_takeCircuits_33
        · skip
          refine hv_aload_n C 0 0 dX10_takeCircuits_13 rfl rfl ?_
          refine zc_get C K (v := .ref (b + 33)) 2 rfl hu_11 (by decide) (cw_at 30 rfl) rfl fl_X10_18 rfl dX10_takeCircuits_14 ?_
          refine hv_iload_n C 2 2 dX10_takeCircuits_17 rfl rfl ?_
          refine hv_dup2 C dX10_takeCircuits_18 rfl rfl ?_
          refine zc_iald C K (f := K9) w (cw_at 33 rfl) (by omega) (by omega) (by decide) dX10_takeCircuits_19 ?_
          refine hv_iload_n C 1 1 dX10_takeCircuits_20 rfl rfl ?_
          refine hv_iload_n C 2 2 dX10_takeCircuits_21 rfl rfl ?_
          refine hv_ishr C w (by omega) (by omega) (by omega) dX10_takeCircuits_22 ?_
          refine hv_iconst C dX10_takeCircuits_23 ?_
          refine hv_imsk C 1 (by decide) (by decide) dX10_takeCircuits_24 ?_
          refine hv_iadd C dX10_takeCircuits_25 ?_
          refine zc_iast C K (f := K9) w (cw_at 33 rfl) (cw_set 33 w ((K9 w) + ((s9 / 2 ^ w) % 2 ^ 1)) rfl) (by omega) (by omega) (by decide) dX10_takeCircuits_26 ?_
          refine zt_st (τ2 := sA τ 33 (ua K9 w ((K9 w) + ((s9 / 2 ^ w) % 2 ^ 1)))) (by rw [u2_sA, sA_sA]; first | done | rfl) ?_
          refine hv_iinc C 2 2 [(2, .int (iz (((w : Nat) : Int) + 1))), (0, .ref (b + 30)), (1, .int (iz s9))] dX10_takeCircuits_27 rfl (by decide) rfl ?_
          refine hv_goto C 2 dX10_takeCircuits_30 (by decide) ?_
          refine hv_loc [1, 2, 0] [(0, .ref (b + 30)), (1, .int (iz s9)), (2, .int (iz (((w : Nat) : Int) + 1)))] rfl ?_
          exact ih2 (w + 1) (ua K9 w ((K9 w) + ((s9 / 2 ^ w) % 2 ^ 1))) (by omega) (by omega) (by rw [hK9]; rfl)
  refine hv_loc [1, 2, 0] [(0, .ref (b + 30)), (1, .int (iz s9)), (2, .int (iz 0))] rfl ?_
  refine zt_st (τ2 := sA τ 33 (τ 33)) ((sA_id τ 33).symm) ?_
  exact L2 _ 0 (τ 33) (Nat.lt_succ_self _) (by omega) rfl
set_option maxRecDepth 100000 in
set_option maxHeartbeats 4000000 in
theorem k_X10_joinParts_wb (l : Launch) {D : va_G} {ar : Nat → ClassId} {B : Nat → Prop} {b n : Nat} {w0 : zcW}  (τ : Nat → Nat → Int) (x : Nat) (hx9 : x < 256) : zt_M l D ar B b w0 n yX10_joinParts cX10_joinParts 3 (some .int) 0 0 [.ref (b + 30), .int (iz ((x : Nat) : Int))] τ (some (.int (iz ((x : Nat) : Int)))) (sA τ 35 (jp9 (τ 35) x 8)) := by
  refine zc_start (own := RX10) (by decide +kernel) rfl (Nat.le_of_ble_eq_true rfl) ?_
  intro p e s m args below meth c C K hr hlk hnam
  refine hv_iconst C dX10_joinParts_0 ?_
  refine hv_istore_n C 2 [(2, .int (iz 0)), (0, .ref (b + 30)), (1, .int (iz ((x : Nat) : Int)))] dX10_joinParts_1 rfl (by decide) rfl ?_
  have L2 : ∀ (f : Nat) (t : Nat) (P9 : Nat → Int), 8 - t < f → (t ≤ 8) → (P9 = jp9 (τ 35) x t) → hvV p l e { frames := 0, cells := 0, slots := 0, locals := 0 } s m args below meth c 3 B 0 0 (MQ below (zc_Q D B (fun r' w' n' => r' = (some (.int (iz ((x : Nat) : Int)))) ∧ w' = cw ar b (sA τ 35 (jp9 (τ 35) x 8)) w0 ∧ n' = n)) args s 0 0 B) (zc_I D B (cw ar b (sA τ 35 P9) w0) n s.heap) 2 [(0, .ref (b + 30)), (1, .int (iz ((x : Nat) : Int))), (2, .int (iz ((t : Nat) : Int)))] [] := by
    intro f
    induction f with
    | zero => intro _ _ hm; exact absurd hm (Nat.not_lt_zero _)
    | succ f ih2 =>
      intro t P9 hm2 ht hP9
      refine hv_iload_n C 2 2 dX10_joinParts_2 rfl rfl ?_
      refine hv_bipush C dX10_joinParts_3 (by decide) ?_
      refine hv_icmp_ge C 30 dX10_joinParts_5 (by decide) (by omega) (by omega) (fun h5 => ?_) (fun h5 => ?_)
      · skip
        refine hv_iload_n C 1 1 dX10_joinParts_30 rfl rfl ?_
        exact zt_iret C hr hlk rfl (by rw [hP9, show t = 8 by omega]) dX10_joinParts_31
      · skip
        refine hv_iload_n C 1 1 dX10_joinParts_8 rfl rfl ?_
        refine hv_iload_n C 2 2 dX10_joinParts_9 rfl rfl ?_
        refine hv_ishr C t (by omega) (by omega) (by omega) dX10_joinParts_10 ?_
        refine hv_iconst C dX10_joinParts_11 ?_
        refine hv_imsk C 1 (by decide) (by decide) dX10_joinParts_12 ?_
        refine hv_iconst C dX10_joinParts_13 ?_
        refine hv_icmp_ne C 24 dX10_joinParts_14 (by decide) (by omega) (by omega) (fun h14 => ?_) (fun h14 => ?_)
        · skip
          refine hv_iinc C 2 2 [(2, .int (iz (((t : Nat) : Int) + 1))), (0, .ref (b + 30)), (1, .int (iz ((x : Nat) : Int)))] dX10_joinParts_24 rfl (by decide) rfl ?_
          refine hv_goto C 2 dX10_joinParts_27 (by decide) ?_
          refine hv_loc [1, 2, 0] [(0, .ref (b + 30)), (1, .int (iz ((x : Nat) : Int))), (2, .int (iz (((t : Nat) : Int) + 1)))] rfl ?_
          exact ih2 (t + 1) P9 (by omega) (by omega) (by rw [hP9, jp9]; first | (rw [if_pos (by omega)]; done) | (rw [if_neg (by omega)]; done))
        · skip
          refine hv_aload_n C 0 0 dX10_joinParts_17 rfl rfl ?_
          refine zc_get C K (v := .ref (b + 35)) 4 rfl hu_11 (by decide) (cw_at 30 rfl) rfl fl_X10_24 rfl dX10_joinParts_18 ?_
          refine hv_iload_n C 2 2 dX10_joinParts_21 rfl rfl ?_
          refine hv_iload_n C 1 1 dX10_joinParts_22 rfl rfl ?_
          refine zc_iast C K (f := P9) t (cw_at 35 rfl) (cw_set 35 t ((x : Nat) : Int) rfl) (by omega) (by omega) (by decide) dX10_joinParts_23 ?_
          refine zt_st (τ2 := sA τ 35 (ua P9 t ((x : Nat) : Int))) (by rw [u2_sA, sA_sA]; first | done | rfl) ?_
          refine hv_iinc C 2 2 [(2, .int (iz (((t : Nat) : Int) + 1))), (0, .ref (b + 30)), (1, .int (iz ((x : Nat) : Int)))] dX10_joinParts_24 rfl (by decide) rfl ?_
          refine hv_goto C 2 dX10_joinParts_27 (by decide) ?_
          refine hv_loc [1, 2, 0] [(0, .ref (b + 30)), (1, .int (iz ((x : Nat) : Int))), (2, .int (iz (((t : Nat) : Int) + 1)))] rfl ?_
          exact ih2 (t + 1) (ua P9 t ((x : Nat) : Int)) (by omega) (by omega) (by rw [hP9, jp9]; first | (rw [if_pos (by omega)]; done) | (rw [if_neg (by omega)]; done))
  refine hv_loc [1, 2, 0] [(0, .ref (b + 30)), (1, .int (iz ((x : Nat) : Int))), (2, .int (iz 0))] rfl ?_
  refine zt_st (τ2 := sA τ 35 (τ 35)) ((sA_id τ 35).symm) ?_
  exact L2 _ 0 (τ 35) (Nat.lt_succ_self _) (by omega) rfl
