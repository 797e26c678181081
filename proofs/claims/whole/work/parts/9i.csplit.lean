/-! splitting the tape into tokens -/
theorem dX5_split_0 : decode cX5_split 0 = .ok (.iload_n 2, 1) := by decide +kernel
theorem dX5_split_1 : decode cX5_split 1 = .ok (.sipush 500, 3) := by decide +kernel
theorem dX5_split_4 : decode cX5_split 4 = .ok (.invokestatic 25, 3) := by decide +kernel
theorem dX5_split_7 : decode cX5_split 7 = .ok (.istore_n 3, 1) := by decide +kernel
theorem dX5_split_8 : decode cX5_split 8 = .ok (.aload_n 0, 1) := by decide +kernel
theorem dX5_split_9 : decode cX5_split 9 = .ok (.iconst 0, 1) := by decide +kernel
theorem dX5_split_10 : decode cX5_split 10 = .ok (.putfield 31, 3) := by decide +kernel
theorem dX5_split_13 : decode cX5_split 13 = .ok (.aload_n 1, 1) := by decide +kernel
theorem dX5_split_14 : decode cX5_split 14 = .ok (.iconst 0, 1) := by decide +kernel
theorem dX5_split_15 : decode cX5_split 15 = .ok (.iload_n 3, 1) := by decide +kernel
theorem dX5_split_16 : decode cX5_split 16 = .ok (.invokestatic 35, 3) := by decide +kernel
theorem dX5_split_19 : decode cX5_split 19 = .ok (.istore 4, 2) := by decide +kernel
theorem dX5_split_21 : decode cX5_split 21 = .ok (.iload 4, 2) := by decide +kernel
theorem dX5_split_23 : decode cX5_split 23 = .ok (.iload_n 3, 1) := by decide +kernel
theorem dX5_split_24 : decode cX5_split 24 = .ok (.if_icmp .ge 72, 3) := by decide +kernel
theorem dX5_split_27 : decode cX5_split 27 = .ok (.aload_n 0, 1) := by decide +kernel
theorem dX5_split_28 : decode cX5_split 28 = .ok (.getfield 31, 3) := by decide +kernel
theorem dX5_split_31 : decode cX5_split 31 = .ok (.sipush 500, 3) := by decide +kernel
theorem dX5_split_34 : decode cX5_split 34 = .ok (.if_icmp .ge 62, 3) := by decide +kernel
theorem dX5_split_37 : decode cX5_split 37 = .ok (.aload_n 1, 1) := by decide +kernel
theorem dX5_split_38 : decode cX5_split 38 = .ok (.iload 4, 2) := by decide +kernel
theorem dX5_split_40 : decode cX5_split 40 = .ok (.iload_n 3, 1) := by decide +kernel
theorem dX5_split_41 : decode cX5_split 41 = .ok (.invokestatic 39, 3) := by decide +kernel
theorem dX5_split_44 : decode cX5_split 44 = .ok (.istore 5, 2) := by decide +kernel
theorem dX5_split_46 : decode cX5_split 46 = .ok (.aload_n 0, 1) := by decide +kernel
theorem dX5_split_47 : decode cX5_split 47 = .ok (.getfield 9, 3) := by decide +kernel
theorem dX5_split_50 : decode cX5_split 50 = .ok (.aload_n 0, 1) := by decide +kernel
theorem dX5_split_51 : decode cX5_split 51 = .ok (.getfield 31, 3) := by decide +kernel
theorem dX5_split_54 : decode cX5_split 54 = .ok (.aload_n 1, 1) := by decide +kernel
theorem dX5_split_55 : decode cX5_split 55 = .ok (.iload 4, 2) := by decide +kernel
theorem dX5_split_57 : decode cX5_split 57 = .ok (.iload 5, 2) := by decide +kernel
theorem dX5_split_59 : decode cX5_split 59 = .ok (.invokestatic 42, 3) := by decide +kernel
theorem dX5_split_62 : decode cX5_split 62 = .ok (.iastore, 1) := by decide +kernel
theorem dX5_split_63 : decode cX5_split 63 = .ok (.aload_n 0, 1) := by decide +kernel
theorem dX5_split_64 : decode cX5_split 64 = .ok (.getfield 15, 3) := by decide +kernel
theorem dX5_split_67 : decode cX5_split 67 = .ok (.aload_n 0, 1) := by decide +kernel
theorem dX5_split_68 : decode cX5_split 68 = .ok (.getfield 31, 3) := by decide +kernel
theorem dX5_split_71 : decode cX5_split 71 = .ok (.iload 4, 2) := by decide +kernel
theorem dX5_split_73 : decode cX5_split 73 = .ok (.iastore, 1) := by decide +kernel
theorem dX5_split_74 : decode cX5_split 74 = .ok (.aload_n 0, 1) := by decide +kernel
theorem dX5_split_75 : decode cX5_split 75 = .ok (.dup, 1) := by decide +kernel
theorem dX5_split_76 : decode cX5_split 76 = .ok (.getfield 31, 3) := by decide +kernel
theorem dX5_split_79 : decode cX5_split 79 = .ok (.iconst 1, 1) := by decide +kernel
theorem dX5_split_80 : decode cX5_split 80 = .ok (.iadd, 1) := by decide +kernel
theorem dX5_split_81 : decode cX5_split 81 = .ok (.putfield 31, 3) := by decide +kernel
theorem dX5_split_84 : decode cX5_split 84 = .ok (.aload_n 1, 1) := by decide +kernel
theorem dX5_split_85 : decode cX5_split 85 = .ok (.iload 5, 2) := by decide +kernel
theorem dX5_split_87 : decode cX5_split 87 = .ok (.iload_n 3, 1) := by decide +kernel
theorem dX5_split_88 : decode cX5_split 88 = .ok (.invokestatic 35, 3) := by decide +kernel
theorem dX5_split_91 : decode cX5_split 91 = .ok (.istore 4, 2) := by decide +kernel
theorem dX5_split_93 : decode cX5_split 93 = .ok (.goto (-72), 3) := by decide +kernel
theorem dX5_split_96 : decode cX5_split 96 = .ok (.aload_n 0, 1) := by decide +kernel
theorem dX5_split_97 : decode cX5_split 97 = .ok (.getfield 9, 3) := by decide +kernel
theorem dX5_split_100 : decode cX5_split 100 = .ok (.aload_n 0, 1) := by decide +kernel
theorem dX5_split_101 : decode cX5_split 101 = .ok (.getfield 31, 3) := by decide +kernel
theorem dX5_split_104 : decode cX5_split 104 = .ok (.iconst 0, 1) := by decide +kernel
theorem dX5_split_105 : decode cX5_split 105 = .ok (.iastore, 1) := by decide +kernel
theorem dX5_split_106 : decode cX5_split 106 = .ok (.aload_n 0, 1) := by decide +kernel
theorem dX5_split_107 : decode cX5_split 107 = .ok (.getfield 15, 3) := by decide +kernel
theorem dX5_split_110 : decode cX5_split 110 = .ok (.aload_n 0, 1) := by decide +kernel
theorem dX5_split_111 : decode cX5_split 111 = .ok (.getfield 31, 3) := by decide +kernel
theorem dX5_split_114 : decode cX5_split 114 = .ok (.iload_n 3, 1) := by decide +kernel
theorem dX5_split_115 : decode cX5_split 115 = .ok (.iastore, 1) := by decide +kernel
theorem dX5_split_116 : decode cX5_split 116 = .ok (.return_, 1) := by decide +kernel
theorem ck_X5_25 : zcS RX5 yJ9_min_7cf53 cJ9_min_7cf53 2 (some .int) 25 2 := ⟨hk_tq2 189 (by decide +kernel) (by decide +kernel), hk_tq3 187 (by decide +kernel) (by decide +kernel), hk_tq1 14 (by decide +kernel) (by decide +kernel), ⟨by decide, by decide, by decide +kernel⟩, hk_tq2 188 (by decide +kernel) (by decide +kernel)⟩
theorem fl_X5_31 : Cond.fieldLink RX5 31 "HookUps$Reader" (TX5 2).2.1 (TX5 2).2.2.1 ∈ hk_tb := hk_tq2 46 (by decide +kernel) (by decide +kernel)
theorem ck_X5_35 : zcS RX5 yX5_skipBlanks cX5_skipBlanks 4 (some .int) 35 3 := ⟨hk_tq3 190 (by decide +kernel) (by decide +kernel), hk_tq3 188 (by decide +kernel) (by decide +kernel), hk_tq1 10 (by decide +kernel) (by decide +kernel), ⟨by decide, by decide, by decide +kernel⟩, hk_tq3 189 (by decide +kernel) (by decide +kernel)⟩
theorem ck_X5_39 : zcS RX5 yX5_tokenEnd cX5_tokenEnd 4 (some .int) 39 3 := ⟨hk_tq3 193 (by decide +kernel) (by decide +kernel), hk_tq3 191 (by decide +kernel) (by decide +kernel), hk_tq1 10 (by decide +kernel) (by decide +kernel), ⟨by decide, by decide, by decide +kernel⟩, hk_tq3 192 (by decide +kernel) (by decide +kernel)⟩
theorem ck_X5_42 : zcS RX5 yX5_tokenOf cX5_tokenOf 3 (some .int) 42 3 := ⟨hk_tq3 202 (by decide +kernel) (by decide +kernel), hk_tq3 200 (by decide +kernel) (by decide +kernel), hk_tq1 10 (by decide +kernel) (by decide +kernel), ⟨by decide, by decide, by decide +kernel⟩, hk_tq3 201 (by decide +kernel) (by decide +kernel)⟩
set_option maxRecDepth 100000 in
set_option maxHeartbeats 4000000 in
theorem k_X5_split (l : Launch) {D : va_G} {ar : Nat → ClassId} {B : Nat → Prop} {b n : Nat} {w0 : zcW} {o : olP} (A : Nat → Int) (τ : Nat → Nat → Int) (ln : Nat) (hT : tpr A ln (τ 9)) (hr9 : ln ≤ 500) (htx : tx9 o) : zto_M l D ar B o b w0 n yX5_split cX5_split 6 none 7 230 [.ref (b + 44), .ref (b + 9), .int (iz ((ln : Nat) : Int))] τ none (spS A ln τ) := by
  refine zo_start (own := RX5) (by decide +kernel) rfl (Nat.le_of_ble_eq_true rfl) ?_
  intro p e s m args below meth c C K O hz hr hlk hnam
  refine hv_iload_n C 2 2 dX5_split_0 rfl rfl ?_
  refine hv_sipush C dX5_split_1 (by decide) ?_
  refine zt_callS [.int (iz ((ln : Nat) : Int)), .int (iz 500)] [] C K (k_J9_min_7cf53 l  τ ((ln : Nat) : Int) 500 (by omega) (by omega)) ck_X5_25 ⟨by dsimp only; omega, by dsimp only; omega⟩ ⟨Nat.zero_le _, Nat.zero_le _⟩ rfl (Nat.le_of_ble_eq_true rfl) dX5_split_4 ?_
  refine hv_as ((if 500 < ((ln : Nat) : Int) then 500 else ((ln : Nat) : Int))) rfl ?_
  refine hv_as (((ln : Nat) : Int)) (by split <;> omega) ?_
  refine hv_istore_n C 3 [(3, .int (iz ((ln : Nat) : Int))), (0, .ref (b + 44)), (1, .ref (b + 9)), (2, .int (iz ((ln : Nat) : Int)))] dX5_split_7 rfl (by decide) rfl ?_
  refine hv_aload_n C 0 1 dX5_split_8 rfl rfl ?_
  refine hv_iconst C dX5_split_9 ?_
  refine zc_put C K 2 rfl hu_6 tyX5 tyX5_ok nmX5 (by decide) (cw_at 44 rfl) (cw_set 44 2 0 rfl) fl_X5_31 rfl rfl (ty := .int) (by decide +kernel) rfl rfl (Nat.le_of_ble_eq_true rfl) dX5_split_10 ?_
  refine zt_st (τ2 := sA τ 44 (ua (τ 44) 2 0)) (by rw [u2_sA]; first | done | rfl) ?_
  refine hv_aload_n C 1 2 dX5_split_13 rfl rfl ?_
  refine hv_iconst C dX5_split_14 ?_
  refine hv_iload_n C 3 0 dX5_split_15 rfl rfl ?_
  refine zt_callS [.ref (b + 9), .int (iz 0), .int (iz ((ln : Nat) : Int))] [] C K (k_X5_skipBlanks l A (sA τ 44 (ua (τ 44) 2 0)) 0 ln hT (by omega)) ck_X5_35 ⟨by dsimp only; omega, by dsimp only; omega⟩ ⟨Nat.zero_le _, Nat.zero_le _⟩ rfl (Nat.le_of_ble_eq_true rfl) dX5_split_16 ?_
  refine hv_as ((sk9 A ln 0)) rfl ?_
  refine hv_nm (fun x1 ex1 => ?_)
  have zr := sk9_r (A := A) (n := (ln : Int)) (q := 0) (by omega)
  obtain ⟨f0, rfl⟩ : ∃ n9 : Nat, x1 = (n9 : Int) := ⟨(x1).toNat, by omega⟩
  refine hv_istore C 4 [(4, .int (iz ((f0 : Nat) : Int))), (3, .int (iz ((ln : Nat) : Int))), (0, .ref (b + 44)), (1, .ref (b + 9)), (2, .int (iz ((ln : Nat) : Int)))] dX5_split_19 (by decide) rfl ?_
  have L21 : ∀ (f : Nat) (fm : Nat) (la : Int) (TK : Nat → Int) (PL : Nat → Int) (k : Nat), 501 - k < f → (la = (k : Int) ∧ k ≤ 500) → ((fm : Int) = pl9q A ln k ∧ fm ≤ ln) → (TK = tsq9 A ln (τ 45) k) → (PL = ps9q A ln (τ 46) k) → (∀ i, i < k → pl9q A ln i < ln) → (tn9f A ln (501 - k) k = tn9 A ln) → hvV p l e { frames := 7, cells := 0, slots := 0, locals := 230 } s m args below meth c 6 B 0 0 (MQ below (zc_Q D B (fun r' w' n' => r' = none ∧ w' = cw ar b (spS A ln τ) w0 ∧ n' = n)) args s 0 0 B) (zc_I D B (cw ar b (sA (sA (sA τ 44 (ua (τ 44) 2 la)) 45 TK) 46 PL) w0) n s.heap) 21 [(0, .ref (b + 44)), (1, .ref (b + 9)), (2, .int (iz ((ln : Nat) : Int))), (3, .int (iz ((ln : Nat) : Int))), (4, .int (iz ((fm : Nat) : Int)))] [] := by
    intro f
    induction f with
    | zero => intro _ _ _ _ _ hm; exact absurd hm (Nat.not_lt_zero _)
    | succ f ih21 =>
      intro fm la TK PL k hm21 hk hf hTK hPL hall hK
      refine hv_iload C 4 4 dX5_split_21 rfl ?_
      refine hv_iload_n C 3 3 dX5_split_23 rfl rfl ?_
      refine hv_icmp_ge C 96 dX5_split_24 (by decide) (by omega) (by omega) (fun h24 => ?_) (fun h24 => ?_)
      · skip
        refine hv_aload_n C 0 0 dX5_split_96 rfl rfl ?_
        refine zc_get C K (v := .ref (b + 45)) 0 rfl hu_6 (by decide) (cw_at 44 rfl) rfl fl_X5_9 rfl dX5_split_97 ?_
        refine hv_aload_n C 0 0 dX5_split_100 rfl rfl ?_
        refine zc_get C K (v := .int (iz la)) 2 rfl hu_6 (by decide) (cw_at 44 rfl) rfl fl_X5_31 rfl dX5_split_101 ?_
        refine hv_iconst C dX5_split_104 ?_
        refine zc_iast C K (f := TK) ((la : Int)).toNat (cw_at 45 rfl) (cw_set 45 ((la : Int)).toNat 0 rfl) (by omega) (by omega) (by decide) dX5_split_105 ?_
        refine zt_st (τ2 := sA (sA (sA τ 44 (ua (τ 44) 2 la)) 45 (ua TK ((la : Int)).toNat 0)) 46 PL) (by rw [u2_sA, sA_comm (j := 46) (k := 45) (by decide), sA_sA]; first | done | rfl) ?_
        refine hv_aload_n C 0 0 dX5_split_106 rfl rfl ?_
        refine zc_get C K (v := .ref (b + 46)) 1 rfl hu_6 (by decide) (cw_at 44 rfl) rfl fl_X5_15 rfl dX5_split_107 ?_
        refine hv_aload_n C 0 0 dX5_split_110 rfl rfl ?_
        refine zc_get C K (v := .int (iz la)) 2 rfl hu_6 (by decide) (cw_at 44 rfl) rfl fl_X5_31 rfl dX5_split_111 ?_
        refine hv_iload_n C 3 3 dX5_split_114 rfl rfl ?_
        refine zc_iast C K (f := PL) ((la : Int)).toNat (cw_at 46 rfl) (cw_set 46 ((la : Int)).toNat ((ln : Nat) : Int) rfl) (by omega) (by omega) (by decide) dX5_split_115 ?_
        refine zt_st (τ2 := sA (sA (sA τ 44 (ua (τ 44) 2 la)) 45 (ua TK ((la : Int)).toNat 0)) 46 (ua PL ((la : Int)).toNat ((ln : Nat) : Int))) (by rw [u2_sA, sA_sA]; first | done | rfl) ?_
        exact zt_vret C hr hlk (by have hE : ¬ pl9q A ln k < ln := (by have z9 := (pl_r (A := A) (n := (ln : Int)) (by omega) k hall).2; omega); have eK : tn9 A ln = k := (by rw [← hK]; exact tn_e hE); have ek2 : la = (k : Int) := hk.1; subst ek2; unfold spS; rw [eK, hTK, hPL, Int.toNat_natCast]) dX5_split_116
      · skip
        refine hv_aload_n C 0 0 dX5_split_27 rfl rfl ?_
        refine zc_get C K (v := .int (iz la)) 2 rfl hu_6 (by decide) (cw_at 44 rfl) rfl fl_X5_31 rfl dX5_split_28 ?_
        refine hv_sipush C dX5_split_31 (by decide) ?_
        refine hv_icmp_ge C 96 dX5_split_34 (by decide) (by omega) (by omega) (fun h34 => ?_) (fun h34 => ?_)
        · skip
          refine hv_aload_n C 0 0 dX5_split_96 rfl rfl ?_
          refine zc_get C K (v := .ref (b + 45)) 0 rfl hu_6 (by decide) (cw_at 44 rfl) rfl fl_X5_9 rfl dX5_split_97 ?_
          refine hv_aload_n C 0 0 dX5_split_100 rfl rfl ?_
          refine zc_get C K (v := .int (iz la)) 2 rfl hu_6 (by decide) (cw_at 44 rfl) rfl fl_X5_31 rfl dX5_split_101 ?_
          refine hv_iconst C dX5_split_104 ?_
          refine zc_iast C K (f := TK) ((la : Int)).toNat (cw_at 45 rfl) (cw_set 45 ((la : Int)).toNat 0 rfl) (by omega) (by omega) (by decide) dX5_split_105 ?_
          refine zt_st (τ2 := sA (sA (sA τ 44 (ua (τ 44) 2 la)) 45 (ua TK ((la : Int)).toNat 0)) 46 PL) (by rw [u2_sA, sA_comm (j := 46) (k := 45) (by decide), sA_sA]; first | done | rfl) ?_
          refine hv_aload_n C 0 0 dX5_split_106 rfl rfl ?_
          refine zc_get C K (v := .ref (b + 46)) 1 rfl hu_6 (by decide) (cw_at 44 rfl) rfl fl_X5_15 rfl dX5_split_107 ?_
          refine hv_aload_n C 0 0 dX5_split_110 rfl rfl ?_
          refine zc_get C K (v := .int (iz la)) 2 rfl hu_6 (by decide) (cw_at 44 rfl) rfl fl_X5_31 rfl dX5_split_111 ?_
          refine hv_iload_n C 3 3 dX5_split_114 rfl rfl ?_
          refine zc_iast C K (f := PL) ((la : Int)).toNat (cw_at 46 rfl) (cw_set 46 ((la : Int)).toNat ((ln : Nat) : Int) rfl) (by omega) (by omega) (by decide) dX5_split_115 ?_
          refine zt_st (τ2 := sA (sA (sA τ 44 (ua (τ 44) 2 la)) 45 (ua TK ((la : Int)).toNat 0)) 46 (ua PL ((la : Int)).toNat ((ln : Nat) : Int))) (by rw [u2_sA, sA_sA]; first | done | rfl) ?_
          exact zt_vret C hr hlk (by have hE : ¬ pl9q A ln k < ln := (by have z9 := (pl_r (A := A) (n := (ln : Int)) (by omega) k hall).2; omega); have eK : tn9 A ln = k := (by rw [← hK]; exact tn_e hE); have ek2 : la = (k : Int) := hk.1; subst ek2; unfold spS; rw [eK, hTK, hPL, Int.toNat_natCast]) dX5_split_116
        · skip
          have hpk : pl9q A ln k < ln := by omega
          refine hv_aload_n C 1 1 dX5_split_37 rfl rfl ?_
          refine hv_iload C 4 4 dX5_split_38 rfl ?_
          refine hv_iload_n C 3 3 dX5_split_40 rfl rfl ?_
          refine zt_callS [.ref (b + 9), .int (iz ((fm : Nat) : Int)), .int (iz ((ln : Nat) : Int))] [] C K (k_X5_tokenEnd l A (sA (sA (sA τ 44 (ua (τ 44) 2 la)) 45 TK) 46 PL) fm ln hT (by omega)) ck_X5_39 ⟨by dsimp only; omega, by dsimp only; omega⟩ ⟨Nat.zero_le _, Nat.zero_le _⟩ rfl (Nat.le_of_ble_eq_true rfl) dX5_split_41 ?_
          refine hv_as ((te9 A ln fm)) rfl ?_
          refine hv_nm (fun x2 ex2 => ?_)
          have zt := te9_r (A := A) (n := (ln : Int)) (p := (fm : Int)) (by omega)
          obtain ⟨t5, rfl⟩ : ∃ n9 : Nat, x2 = (n9 : Int) := ⟨(x2).toNat, by omega⟩
          refine hv_istore C 5 [(5, .int (iz ((t5 : Nat) : Int))), (0, .ref (b + 44)), (1, .ref (b + 9)), (2, .int (iz ((ln : Nat) : Int))), (3, .int (iz ((ln : Nat) : Int))), (4, .int (iz ((fm : Nat) : Int)))] dX5_split_44 (by decide) rfl ?_
          refine hv_aload_n C 0 1 dX5_split_46 rfl rfl ?_
          refine zc_get C K (v := .ref (b + 45)) 0 rfl hu_6 (by decide) (cw_at 44 rfl) rfl fl_X5_9 rfl dX5_split_47 ?_
          refine hv_aload_n C 0 1 dX5_split_50 rfl rfl ?_
          refine zc_get C K (v := .int (iz la)) 2 rfl hu_6 (by decide) (cw_at 44 rfl) rfl fl_X5_31 rfl dX5_split_51 ?_
          refine hv_aload_n C 1 2 dX5_split_54 rfl rfl ?_
          refine hv_iload C 4 5 dX5_split_55 rfl ?_
          refine hv_iload C 5 0 dX5_split_57 rfl ?_
          refine zto_callS [.ref (b + 9), .int (iz ((fm : Nat) : Int)), .int (iz ((t5 : Nat) : Int))] [.int (iz la), .ref (b + 45)] C K O (k_X5_tokenOf l A ln (sA (sA (sA τ 44 (ua (τ 44) 2 la)) 45 TK) 46 PL) fm t5 hT (by omega) (by omega) htx) ck_X5_42 ⟨by dsimp only; omega, by dsimp only; omega⟩ ⟨Nat.zero_le _, Nat.zero_le _⟩ rfl (Nat.le_of_ble_eq_true rfl) dX5_split_59 ?_
          refine hv_as ((tv9 A ln fm)) rfl ?_
          refine zc_iast C K (f := TK) ((la : Int)).toNat (cw_at 45 rfl) (cw_set 45 ((la : Int)).toNat (tv9 A ln fm) rfl) (by omega) (by omega) (by decide) dX5_split_62 ?_
          refine zt_st (τ2 := sA (sA (sA τ 44 (ua (τ 44) 2 la)) 45 (ua TK ((la : Int)).toNat (tv9 A ln fm))) 46 PL) (by rw [u2_sA, sA_comm (j := 46) (k := 45) (by decide), sA_sA]; first | done | rfl) ?_
          refine hv_aload_n C 0 1 dX5_split_63 rfl rfl ?_
          refine zc_get C K (v := .ref (b + 46)) 1 rfl hu_6 (by decide) (cw_at 44 rfl) rfl fl_X5_15 rfl dX5_split_64 ?_
          refine hv_aload_n C 0 1 dX5_split_67 rfl rfl ?_
          refine zc_get C K (v := .int (iz la)) 2 rfl hu_6 (by decide) (cw_at 44 rfl) rfl fl_X5_31 rfl dX5_split_68 ?_
          refine hv_iload C 4 5 dX5_split_71 rfl ?_
          refine zc_iast C K (f := PL) ((la : Int)).toNat (cw_at 46 rfl) (cw_set 46 ((la : Int)).toNat ((fm : Nat) : Int) rfl) (by omega) (by omega) (by decide) dX5_split_73 ?_
          refine zt_st (τ2 := sA (sA (sA τ 44 (ua (τ 44) 2 la)) 45 (ua TK ((la : Int)).toNat (tv9 A ln fm))) 46 (ua PL ((la : Int)).toNat ((fm : Nat) : Int))) (by rw [u2_sA, sA_sA]; first | done | rfl) ?_
          refine hv_aload_n C 0 1 dX5_split_74 rfl rfl ?_
          refine hv_dup C dX5_split_75 rfl ?_
          refine zc_get C K (v := .int (iz la)) 2 rfl hu_6 (by decide) (cw_at 44 rfl) rfl fl_X5_31 rfl dX5_split_76 ?_
          refine hv_iconst C dX5_split_79 ?_
          refine hv_iadd C dX5_split_80 ?_
          refine zc_put C K 2 rfl hu_6 tyX5 tyX5_ok nmX5 (by decide) (cw_at 44 rfl) (cw_set 44 2 (la + 1) rfl) fl_X5_31 rfl rfl (ty := .int) (by decide +kernel) rfl rfl (Nat.le_of_ble_eq_true rfl) dX5_split_81 ?_
          refine zt_st (τ2 := sA (sA (sA τ 44 (ua (τ 44) 2 (la + 1))) 45 (ua TK ((la : Int)).toNat (tv9 A ln fm))) 46 (ua PL ((la : Int)).toNat ((fm : Nat) : Int))) (by rw [u2_sA, sA_comm (j := 46) (k := 44) (by decide), sA_comm (j := 45) (k := 44) (by decide), sA_sA]; rw [show (sA (sA (sA τ 44 (ua (τ 44) 2 la)) 45 (ua TK ((la : Int)).toNat (tv9 A ln fm))) 46 (ua PL ((la : Int)).toNat ((fm : Nat) : Int))) 44 = (ua (τ 44) 2 la) from rfl, ua_ua]; first | done | rfl) ?_
          refine hv_aload_n C 1 2 dX5_split_84 rfl rfl ?_
          refine hv_iload C 5 0 dX5_split_85 rfl ?_
          refine hv_iload_n C 3 4 dX5_split_87 rfl rfl ?_
          refine zt_callS [.ref (b + 9), .int (iz ((t5 : Nat) : Int)), .int (iz ((ln : Nat) : Int))] [] C K (k_X5_skipBlanks l A (sA (sA (sA τ 44 (ua (τ 44) 2 (la + 1))) 45 (ua TK ((la : Int)).toNat (tv9 A ln fm))) 46 (ua PL ((la : Int)).toNat ((fm : Nat) : Int))) t5 ln hT (by omega)) ck_X5_35 ⟨by dsimp only; omega, by dsimp only; omega⟩ ⟨Nat.zero_le _, Nat.zero_le _⟩ rfl (Nat.le_of_ble_eq_true rfl) dX5_split_88 ?_
          refine hv_as ((sk9 A ln t5)) rfl ?_
          refine hv_nm (fun x3 ex3 => ?_)
          have zs := sk9_r (A := A) (n := (ln : Int)) (q := (t5 : Int)) (by omega)
          obtain ⟨f9, rfl⟩ : ∃ n9 : Nat, x3 = (n9 : Int) := ⟨(x3).toNat, by omega⟩
          have hq9 : qs9 A ln (k + 1) = t5 := by show te9 A ln (pl9q A ln k) = _; rw [← hf.1]; omega
          have hp9 : pl9q A ln (k + 1) = f9 := by unfold pl9q; rw [hq9]; omega
          refine hv_istore C 4 [(4, .int (iz ((f9 : Nat) : Int))), (5, .int (iz ((t5 : Nat) : Int))), (0, .ref (b + 44)), (1, .ref (b + 9)), (2, .int (iz ((ln : Nat) : Int))), (3, .int (iz ((ln : Nat) : Int)))] dX5_split_91 (by decide) rfl ?_
          refine hv_goto C 21 dX5_split_93 (by decide) ?_
          refine hv_loc [2, 3, 4, 5, 0] [(0, .ref (b + 44)), (1, .ref (b + 9)), (2, .int (iz ((ln : Nat) : Int))), (3, .int (iz ((ln : Nat) : Int))), (4, .int (iz ((f9 : Nat) : Int)))] rfl ?_
          exact ih21 f9 (la + 1) (ua TK ((la : Int)).toNat (tv9 A ln fm)) (ua PL ((la : Int)).toNat ((fm : Nat) : Int)) (k + 1) (by omega) (by omega) (by omega) (by rw [hTK, show la.toNat = k by omega, hf.1]; exact ts_s A ln (τ 45) k) (by rw [hPL, show la.toNat = k by omega, hf.1]; exact ps_s A ln (τ 46) k) (fun i z => by by_cases c9 : i = k; (rw [c9]; exact hpk); (exact hall i (by omega))) (by rw [← hK, tn_s (by omega) hpk]; rfl)
  refine hv_loc [2, 3, 4, 1, 0] [(0, .ref (b + 44)), (1, .ref (b + 9)), (2, .int (iz ((ln : Nat) : Int))), (3, .int (iz ((ln : Nat) : Int))), (4, .int (iz ((f0 : Nat) : Int)))] rfl ?_
  refine zt_st (τ2 := sA (sA τ 44 (ua (τ 44) 2 0)) 45 (τ 45)) ((sA_id (sA τ 44 (ua (τ 44) 2 0)) 45).symm) ?_
  refine zt_st (τ2 := sA (sA (sA τ 44 (ua (τ 44) 2 0)) 45 (τ 45)) 46 (τ 46)) ((sA_id (sA (sA τ 44 (ua (τ 44) 2 0)) 45 (τ 45)) 46).symm) ?_
  exact L21 _ f0 0 (τ 45) (τ 46) 0 (Nat.lt_succ_self _) (by omega) (by refine ⟨?_, by omega⟩; show _ = sk9 A ln (qs9 A ln 0); rw [show qs9 A ln 0 = 0 from rfl]; omega) (ts_0 A ln (τ 45)) (ps_0 A ln (τ 46)) (fun i z => absurd z (Nat.not_lt_zero _)) rfl
