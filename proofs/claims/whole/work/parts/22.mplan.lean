theorem dX12_plan_0 : decode cX12_plan 0 = .ok (.iload_n 1, 1) := by decide +kernel
theorem dX12_plan_1 : decode cX12_plan 1 = .ok (.iconst 0, 1) := by decide +kernel
theorem dX12_plan_2 : decode cX12_plan 2 = .ok (.aload_n 0, 1) := by decide +kernel
theorem dX12_plan_3 : decode cX12_plan 3 = .ok (.getfield 7, 3) := by decide +kernel
theorem dX12_plan_6 : decode cX12_plan 6 = .ok (.bipush 7, 2) := by decide +kernel
theorem dX12_plan_8 : decode cX12_plan 8 = .ok (.iaload, 1) := by decide +kernel
theorem dX12_plan_9 : decode cX12_plan 9 = .ok (.invokestatic 59, 3) := by decide +kernel
theorem dX12_plan_12 : decode cX12_plan 12 = .ok (.ifCond .ne 5, 3) := by decide +kernel
theorem dX12_plan_15 : decode cX12_plan 15 = .ok (.iconst (-1), 1) := by decide +kernel
theorem dX12_plan_16 : decode cX12_plan 16 = .ok (.ireturn, 1) := by decide +kernel
theorem dX12_plan_17 : decode cX12_plan 17 = .ok (.aload_n 0, 1) := by decide +kernel
theorem dX12_plan_18 : decode cX12_plan 18 = .ok (.invokevirtual 297, 3) := by decide +kernel
theorem dX12_plan_21 : decode cX12_plan 21 = .ok (.aload_n 0, 1) := by decide +kernel
theorem dX12_plan_22 : decode cX12_plan 22 = .ok (.getfield 288, 3) := by decide +kernel
theorem dX12_plan_25 : decode cX12_plan 25 = .ok (.ifCond .ge 7, 3) := by decide +kernel
theorem dX12_plan_28 : decode cX12_plan 28 = .ok (.iconst (-1), 1) := by decide +kernel
theorem dX12_plan_29 : decode cX12_plan 29 = .ok (.goto 22, 3) := by decide +kernel
theorem dX12_plan_32 : decode cX12_plan 32 = .ok (.iload_n 1, 1) := by decide +kernel
theorem dX12_plan_33 : decode cX12_plan 33 = .ok (.ifCond .ne 10, 3) := by decide +kernel
theorem dX12_plan_36 : decode cX12_plan 36 = .ok (.aload_n 0, 1) := by decide +kernel
theorem dX12_plan_37 : decode cX12_plan 37 = .ok (.getfield 288, 3) := by decide +kernel
theorem dX12_plan_40 : decode cX12_plan 40 = .ok (.goto 11, 3) := by decide +kernel
theorem dX12_plan_43 : decode cX12_plan 43 = .ok (.aload_n 0, 1) := by decide +kernel
theorem dX12_plan_44 : decode cX12_plan 44 = .ok (.getfield 56, 3) := by decide +kernel
theorem dX12_plan_47 : decode cX12_plan 47 = .ok (.iload_n 1, 1) := by decide +kernel
theorem dX12_plan_48 : decode cX12_plan 48 = .ok (.iconst 1, 1) := by decide +kernel
theorem dX12_plan_49 : decode cX12_plan 49 = .ok (.isub, 1) := by decide +kernel
theorem dX12_plan_50 : decode cX12_plan 50 = .ok (.iaload, 1) := by decide +kernel
theorem dX12_plan_51 : decode cX12_plan 51 = .ok (.ireturn, 1) := by decide +kernel
set_option maxRecDepth 100000 in
set_option maxHeartbeats 4000000 in
theorem k_plan (l : Launch) {D : va_G} {cI cZ : ClassId} {a0 : Nat} (σ : Nat → Nat → Int) (what : Int) (hσ : rg σ) (hc : cn (σ 1)) (hp : piI (σ 1)) (hR : inI (plR (σ 1) (ua (σ 15) 0 (-1)) (σ 16)).1) (r_what : inI what) : moM l D cI cZ a0 yX12_plan cX12_plan 2 (some .int) 2 45 [.ref a0, .int (iz what)] σ (some (.int (iz (if (0 ≤ what ∧ what ≤ σ 1 7) then (if (plR (σ 1) (ua (σ 15) 0 (-1)) (σ 16)).1 < 0 then -1 else if what = 0 then (plR (σ 1) (ua (σ 15) 0 (-1)) (σ 16)).1 else (plR (σ 1) (ua (σ 15) 0 (-1)) (σ 16)).2.1 (what - 1).toNat) else -1)))) (if (0 ≤ what ∧ what ≤ σ 1 7) then sA (sA (sA σ 0 (ua (σ 0) 27 (plR (σ 1) (ua (σ 15) 0 (-1)) (σ 16)).1)) 15 (plR (σ 1) (ua (σ 15) 0 (-1)) (σ 16)).2.2) 16 (plR (σ 1) (ua (σ 15) 0 (-1)) (σ 16)).2.1 else σ) := by
  refine mo_start (by decide) rfl (Nat.le_of_ble_eq_true rfl) ?_
  intro p e s m args below meth c C K hr hlk
  refine hv_iload_n C 1 1 dX12_plan_0 rfl rfl ?_
  refine hv_iconst C dX12_plan_1 ?_
  refine hv_aload_n C 0 0 dX12_plan_2 rfl rfl ?_
  refine mo_geta C K 0 1 (by decide) rfl mo_hw fl_7 rfl dX12_plan_3 ?_
  refine hv_bipush C dX12_plan_6 (by decide) ?_
  refine mo_iald C K 1 9040 7 rfl (by omega) (by omega) (by decide) dX12_plan_8 ?_
  refine hv_as (σ 1 7) rfl ?_
  refine hv_nm (fun x1 ex1 => ?_)
  have rx1 : inI x1 := by rw [ex1]; exact hσ 1 7
  refine mo_callS [.int (iz what), .int (iz 0), .int (iz x1)] [] C K (k_isIn l σ what 0 x1 (by omega) (by omega) (by omega)) ck_isIn (by decide) rfl (Nat.le_of_ble_eq_true rfl) dX12_plan_9 ?_
  refine hv_dif_ne C 17 dX12_plan_12 (by decide)  (fun h12 => ?_) (fun h12 => ?_)
  · skip
    refine hv_aload_n C 0 0 dX12_plan_17 rfl rfl ?_
    refine mo_call [] [] C K (k_plans l σ  hσ (by omega) (by omega)) ck_plans (by decide) rfl (Nat.le_of_ble_eq_true rfl) dX12_plan_18 ?_
    refine mo_st (σ2 := sA (sA (sA σ 0 (ua (σ 0) 27 ((plR (σ 1) (ua (σ 15) 0 (-1)) (σ 16)).1))) 15 (plR (σ 1) (ua (σ 15) 0 (-1)) (σ 16)).2.2) 16 (plR (σ 1) (ua (σ 15) 0 (-1)) (σ 16)).2.1) (by first | rfl | (funext x9; simp only [u2, sA]; (repeat' split) <;> first | rfl | (exfalso; omega) | (subst_vars; rfl))) ?_
    refine hv_aload_n C 0 0 dX12_plan_21 rfl rfl ?_
    refine mo_geti C K (x := ((plR (σ 1) (ua (σ 15) 0 (-1)) (σ 16)).1)) 27 (by decide) rfl mo_hw fl_288 rfl dX12_plan_22 ?_
    refine hv_if_ge C 32 dX12_plan_25 (by decide) (by omega) (fun h25 => ?_) (fun h25 => ?_)
    · skip
      refine hv_iload_n C 1 1 dX12_plan_32 rfl rfl ?_
      refine hv_if_ne C 43 dX12_plan_33 (by decide) (by omega) (fun h33 => ?_) (fun h33 => ?_)
      · skip
        refine hv_aload_n C 0 0 dX12_plan_43 rfl rfl ?_
        refine mo_geta C K 26 16 (by decide) rfl mo_hw fl_56 rfl dX12_plan_44 ?_
        refine hv_iload_n C 1 1 dX12_plan_47 rfl rfl ?_
        refine hv_iconst C dX12_plan_48 ?_
        refine hv_isub C dX12_plan_49 ?_
        refine mo_iald C K 16 6 (((what - 1) : Int)).toNat rfl (by omega) (by omega) (by decide) dX12_plan_50 ?_
        refine hv_as ((plR (σ 1) (ua (σ 15) 0 (-1)) (σ 16)).2.1 (((what - 1) : Int)).toNat) rfl ?_
        exact mo_iret (Qc := fun _ _ _ _ => True) C hr hlk (by first | exact if_n (by omega) rfl | (refine if_p (by omega) ?_; first | exact if_p (by omega) rfl | (refine if_n (by omega) ?_; first | exact if_p (by omega) rfl | exact if_n (by omega) rfl))) (by first | exact if_n (by omega) rfl | exact if_p (by omega) rfl) dX12_plan_51
      · skip
        refine hv_aload_n C 0 0 dX12_plan_36 rfl rfl ?_
        refine mo_geti C K (x := ((plR (σ 1) (ua (σ 15) 0 (-1)) (σ 16)).1)) 27 (by decide) rfl mo_hw fl_288 rfl dX12_plan_37 ?_
        refine hv_goto C 51 dX12_plan_40 (by decide) ?_
        exact mo_iret (Qc := fun _ _ _ _ => True) C hr hlk (by first | exact if_n (by omega) rfl | (refine if_p (by omega) ?_; first | exact if_p (by omega) rfl | (refine if_n (by omega) ?_; first | exact if_p (by omega) rfl | exact if_n (by omega) rfl))) (by first | exact if_n (by omega) rfl | exact if_p (by omega) rfl) dX12_plan_51
    · skip
      refine hv_iconst C dX12_plan_28 ?_
      refine hv_goto C 51 dX12_plan_29 (by decide) ?_
      exact mo_iret (Qc := fun _ _ _ _ => True) C hr hlk (by first | exact if_n (by omega) rfl | (refine if_p (by omega) ?_; first | exact if_p (by omega) rfl | (refine if_n (by omega) ?_; first | exact if_p (by omega) rfl | exact if_n (by omega) rfl))) (by first | exact if_n (by omega) rfl | exact if_p (by omega) rfl) dX12_plan_51
  · skip
    refine hv_iconst C dX12_plan_15 ?_
    exact mo_iret (Qc := fun _ _ _ _ => True) C hr hlk (by first | exact if_n (by omega) rfl | (refine if_p (by omega) ?_; first | exact if_p (by omega) rfl | (refine if_n (by omega) ?_; first | exact if_p (by omega) rfl | exact if_n (by omega) rfl))) (by first | exact if_n (by omega) rfl | exact if_p (by omega) rfl) dX12_plan_16
