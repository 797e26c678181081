theorem fl_X11_183 : Cond.fieldLink RX11 183 "HookUps$Told" (TX8 11).2.1 (TX8 11).2.2.1 ∈ hk_tb := hk_tq1 150 (by decide +kernel) (by decide +kernel)
theorem fl_X11_194 : Cond.fieldLink RX11 194 "HookUps$Reader" (TX5 6).2.1 (TX5 6).2.2.1 ∈ hk_tb := hk_tq2 52 (by decide +kernel) (by decide +kernel)
theorem fl_X11_195 : Cond.fieldLink RX11 195 "HookUps$Reader" (TX5 7).2.1 (TX5 7).2.2.1 ∈ hk_tb := hk_tq2 54 (by decide +kernel) (by decide +kernel)
theorem fl_X11_200 : Cond.fieldLink RX11 200 "HookUps$Reader" (TX5 5).2.1 (TX5 5).2.2.1 ∈ hk_tb := hk_tq2 50 (by decide +kernel) (by decide +kernel)
theorem ck_X11_187 : zcV RX11 RX5 yX5_split cX5_split 6 none 187 2 := ⟨hk_tq3 186 (by decide +kernel) (by decide +kernel), hk_tq3 183 (by decide +kernel) (by decide +kernel), hk_tq1 10 (by decide +kernel) (by decide +kernel), ⟨by decide, by decide, by decide +kernel⟩, hk_tq3 184 (by decide +kernel) (by decide +kernel), hk_tq3 185 (by decide +kernel) (by decide +kernel)⟩
theorem ck_X11_191 : zcV RX11 RX5 yX5_readText cX5_readText 2 none 191 0 := ⟨hk_tq4 19 (by decide +kernel) (by decide +kernel), hk_tq4 16 (by decide +kernel) (by decide +kernel), hk_tq1 10 (by decide +kernel) (by decide +kernel), ⟨by decide, by decide, by decide +kernel⟩, hk_tq4 17 (by decide +kernel) (by decide +kernel), hk_tq4 18 (by decide +kernel) (by decide +kernel)⟩
theorem dX11_contract_0 : decode cX11_contract 0 = .ok (.aload_n 0, 1) := by decide +kernel
theorem dX11_contract_1 : decode cX11_contract 1 = .ok (.getfield 10, 3) := by decide +kernel
theorem dX11_contract_4 : decode cX11_contract 4 = .ok (.getfield 170, 3) := by decide +kernel
theorem dX11_contract_7 : decode cX11_contract 7 = .ok (.istore_n 2, 1) := by decide +kernel
theorem dX11_contract_8 : decode cX11_contract 8 = .ok (.aload_n 0, 1) := by decide +kernel
theorem dX11_contract_9 : decode cX11_contract 9 = .ok (.getfield 10, 3) := by decide +kernel
theorem dX11_contract_12 : decode cX11_contract 12 = .ok (.iconst 0, 1) := by decide +kernel
theorem dX11_contract_13 : decode cX11_contract 13 = .ok (.putfield 170, 3) := by decide +kernel
theorem dX11_contract_16 : decode cX11_contract 16 = .ok (.aload_n 0, 1) := by decide +kernel
theorem dX11_contract_17 : decode cX11_contract 17 = .ok (.getfield 10, 3) := by decide +kernel
theorem dX11_contract_20 : decode cX11_contract 20 = .ok (.iconst 0, 1) := by decide +kernel
theorem dX11_contract_21 : decode cX11_contract 21 = .ok (.putfield 177, 3) := by decide +kernel
theorem dX11_contract_24 : decode cX11_contract 24 = .ok (.aload_n 0, 1) := by decide +kernel
theorem dX11_contract_25 : decode cX11_contract 25 = .ok (.getfield 10, 3) := by decide +kernel
theorem dX11_contract_28 : decode cX11_contract 28 = .ok (.iconst (-1), 1) := by decide +kernel
theorem dX11_contract_29 : decode cX11_contract 29 = .ok (.putfield 180, 3) := by decide +kernel
theorem dX11_contract_32 : decode cX11_contract 32 = .ok (.iload_n 1, 1) := by decide +kernel
theorem dX11_contract_33 : decode cX11_contract 33 = .ok (.invokestatic 115, 3) := by decide +kernel
theorem dX11_contract_36 : decode cX11_contract 36 = .ok (.ifCond .ne 6, 3) := by decide +kernel
theorem dX11_contract_39 : decode cX11_contract 39 = .ok (.bipush (-2), 2) := by decide +kernel
theorem dX11_contract_41 : decode cX11_contract 41 = .ok (.ireturn, 1) := by decide +kernel
theorem dX11_contract_42 : decode cX11_contract 42 = .ok (.aload_n 0, 1) := by decide +kernel
theorem dX11_contract_43 : decode cX11_contract 43 = .ok (.getfield 40, 3) := by decide +kernel
theorem dX11_contract_46 : decode cX11_contract 46 = .ok (.aload_n 0, 1) := by decide +kernel
theorem dX11_contract_47 : decode cX11_contract 47 = .ok (.getfield 10, 3) := by decide +kernel
theorem dX11_contract_50 : decode cX11_contract 50 = .ok (.getfield 183, 3) := by decide +kernel
theorem dX11_contract_53 : decode cX11_contract 53 = .ok (.iload_n 2, 1) := by decide +kernel
theorem dX11_contract_54 : decode cX11_contract 54 = .ok (.invokevirtual 187, 3) := by decide +kernel
theorem dX11_contract_57 : decode cX11_contract 57 = .ok (.aload_n 0, 1) := by decide +kernel
theorem dX11_contract_58 : decode cX11_contract 58 = .ok (.getfield 40, 3) := by decide +kernel
theorem dX11_contract_61 : decode cX11_contract 61 = .ok (.invokevirtual 191, 3) := by decide +kernel
theorem dX11_contract_64 : decode cX11_contract 64 = .ok (.aload_n 0, 1) := by decide +kernel
theorem dX11_contract_65 : decode cX11_contract 65 = .ok (.getfield 40, 3) := by decide +kernel
theorem dX11_contract_68 : decode cX11_contract 68 = .ok (.getfield 194, 3) := by decide +kernel
theorem dX11_contract_71 : decode cX11_contract 71 = .ok (.ifCond .eq 33, 3) := by decide +kernel
theorem dX11_contract_74 : decode cX11_contract 74 = .ok (.aload_n 0, 1) := by decide +kernel
theorem dX11_contract_75 : decode cX11_contract 75 = .ok (.getfield 10, 3) := by decide +kernel
theorem dX11_contract_78 : decode cX11_contract 78 = .ok (.aload_n 0, 1) := by decide +kernel
theorem dX11_contract_79 : decode cX11_contract 79 = .ok (.getfield 40, 3) := by decide +kernel
theorem dX11_contract_82 : decode cX11_contract 82 = .ok (.getfield 194, 3) := by decide +kernel
theorem dX11_contract_85 : decode cX11_contract 85 = .ok (.putfield 177, 3) := by decide +kernel
theorem dX11_contract_88 : decode cX11_contract 88 = .ok (.aload_n 0, 1) := by decide +kernel
theorem dX11_contract_89 : decode cX11_contract 89 = .ok (.getfield 10, 3) := by decide +kernel
theorem dX11_contract_92 : decode cX11_contract 92 = .ok (.aload_n 0, 1) := by decide +kernel
theorem dX11_contract_93 : decode cX11_contract 93 = .ok (.getfield 40, 3) := by decide +kernel
theorem dX11_contract_96 : decode cX11_contract 96 = .ok (.getfield 195, 3) := by decide +kernel
theorem dX11_contract_99 : decode cX11_contract 99 = .ok (.putfield 180, 3) := by decide +kernel
theorem dX11_contract_102 : decode cX11_contract 102 = .ok (.iconst (-1), 1) := by decide +kernel
theorem dX11_contract_103 : decode cX11_contract 103 = .ok (.ireturn, 1) := by decide +kernel
theorem dX11_contract_104 : decode cX11_contract 104 = .ok (.aload_n 0, 1) := by decide +kernel
theorem dX11_contract_105 : decode cX11_contract 105 = .ok (.getfield 10, 3) := by decide +kernel
theorem dX11_contract_108 : decode cX11_contract 108 = .ok (.getfield 196, 3) := by decide +kernel
theorem dX11_contract_111 : decode cX11_contract 111 = .ok (.iload_n 1, 1) := by decide +kernel
theorem dX11_contract_112 : decode cX11_contract 112 = .ok (.aload_n 0, 1) := by decide +kernel
theorem dX11_contract_113 : decode cX11_contract 113 = .ok (.getfield 40, 3) := by decide +kernel
theorem dX11_contract_116 : decode cX11_contract 116 = .ok (.getfield 200, 3) := by decide +kernel
theorem dX11_contract_119 : decode cX11_contract 119 = .ok (.aastore, 1) := by decide +kernel
theorem dX11_contract_120 : decode cX11_contract 120 = .ok (.aload_n 0, 1) := by decide +kernel
theorem dX11_contract_121 : decode cX11_contract 121 = .ok (.getfield 40, 3) := by decide +kernel
theorem dX11_contract_124 : decode cX11_contract 124 = .ok (.getfield 200, 3) := by decide +kernel
theorem dX11_contract_127 : decode cX11_contract 127 = .ok (.getfield 204, 3) := by decide +kernel
theorem dX11_contract_130 : decode cX11_contract 130 = .ok (.ireturn, 1) := by decide +kernel
/-! HookUps.contract -/
theorem cwm_r (w : Int) : 1 ≤ cwm w ∧ cwm w ≤ 22 := by
  unfold cwm
  repeat' split
  all_goals omega
theorem tv_r {A : Nat → Int} {n p : Int} (hp : p ≤ n) : 1 ≤ tv9 A n p ∧ tv9 A n p ≤ 10099 := by
  have c := cwm_r (wo9 (lt9 A n p p 0).1 p (lt9 A n p p 0).2)
  have vr := dg9_r (A := A) (n := n) (p := p) (q := p) (v := 0) hp (Or.inl ⟨by omega, rfl⟩)
  unfold tv9
  split
  · omega
  · split
    · split <;> omega
    · repeat' split
      all_goals omega
theorem sp_r {A : Nat → Int} {ln : Nat} {τ : Nat → Nat → Int} (hl : ln ≤ 500) : (0 ≤ (spS A ln τ) 44 2 ∧ (spS A ln τ) 44 2 ≤ 500) ∧ ∀ i : Nat, (i : Int) ≤ (spS A ln τ) 44 2 → inI ((spS A ln τ) 45 i) ∧ inI ((spS A ln τ) 46 i) := by
  obtain ⟨t1, t2, t3⟩ := tn_le (A := A) (n := (ln : Int)) (by omega)
  obtain ⟨lx, s2, r2⟩ := lx_0 (A := A) (pk := 0) (τ := τ) hl
  obtain ⟨l1, l2, l3, l4, l5⟩ := lx
  have ro : ∀ j, j ≠ 44 → j < 100 → (rx0 0 (spS A ln τ)) j = (spS A ln τ) j := by
    intro j h1 h2
    unfold rx0
    rw [sA_ne _ _ h1, rx00_o _ _ h1 h2]
  rw [ro 45 (by decide) (by decide)] at l2 l3
  rw [ro 46 (by decide) (by decide)] at l2 l4
  refine ⟨by rw [s2]; omega, fun i hi => ?_⟩
  rw [s2] at hi
  by_cases c : i < tn9 A ln
  · obtain ⟨q1, q2, q3⟩ := l2 i c
    have pr := (pl_r (A := A) (n := (ln : Int)) (by omega) i (fun k hk => (l2 k (by omega)).2.2)).2
    have tv := tv_r (A := A) (n := (ln : Int)) (p := pl9q A ln i) (by omega)
    rw [q1, q2]
    omega
  · have e : i = tn9 A ln := by omega
    rw [e, l3, l4]
    omega
def cta (τ : Nat → Nat → Int) : Nat → Nat → Int := sA τ 1 (ua (ua (ua (τ 1) 12 0) 13 0) 14 (-1))
/-- what comes out of contract, cell by cell -/
def ctP (ar : Nat → ClassId) (b : Nat) (A : Nat → Int) (ln : Nat) (nw : Int) (τ : Nat → Nat → Int) (w0 : zcW) (n : Nat) (r' : Option Value) (w' : zcW) (n' : Nat) : Prop :=
  (¬ (0 ≤ nw ∧ nw ≤ 2) ∧ r' = some (.int (iz (-2))) ∧ w' = cw ar b (cta τ) w0 ∧ n' = n) ∨
  ((0 ≤ nw ∧ nw ≤ 2) ∧ ∃ T : Nat → Nat → Int, T = rxS n (spS A ln (cta τ)) ∧ n' = n + 4 ∧
    ((¬ T 44 6 = 0 ∧ r' = some (.int (iz (-1))) ∧ w' = cv ar b n (sA T 1 (ua (ua (T 1) 13 (T 44 6)) 14 (T 44 7))) w0) ∨
     (T 44 6 = 0 ∧ r' = some (.int (iz (T 100 0))) ∧ w' = cv ar b n (sA T 10 (ua (T 10) nw.toNat ((n : Nat) : Int))) w0)))
set_option maxRecDepth 100000 in
set_option maxHeartbeats 4000000 in
theorem s_X11_contract0 (l : Launch) {D : va_G} {ar : Nat → ClassId} {B : Nat → Prop} {b n : Nat} {w0 : zcW} {o : olP} (A : Nat → Int) (ln : Nat) (τ : Nat → Nat → Int) (nw : Int) (h12 : τ 1 12 = (ln : Int)) (hl : ln ≤ 500) (hT : tpr A ln (τ 9)) (htx : tx9 o) (hn : b + 47 ≤ n) (r_nw : inI nw) : zo_M l D ar B o yX11_contract cX11_contract 3 (some .int) 9 300 4 292 [.ref b, .int (iz nw)] (cw ar b τ w0) n (ctP ar b A ln nw τ w0 n) := by
  refine zo_start (own := RX11) (by decide +kernel) rfl (Nat.le_of_ble_eq_true rfl) ?_
  intro p e s m args below meth c C K O hz hr hlk hnam
  refine hv_aload_n C 0 0 dX11_contract_0 rfl rfl ?_
  refine zc_get C K (v := .ref (b + 1)) 0 rfl hu_12 (by decide) cw_0 rfl fl_X11_10 rfl dX11_contract_1 ?_
  refine zc_get C K (v := .int (iz (τ 1 12))) 12 rfl hu_9 (by decide) (cw_at 1 rfl) rfl fl_X11_170 rfl dX11_contract_4 ?_
  refine hv_as ((ln : Nat) : Int) h12 ?_
  refine hv_istore_n C 2 [(2, .int (iz ((ln : Nat) : Int))), (0, .ref b), (1, .int (iz nw))] dX11_contract_7 rfl (by decide) rfl ?_
  refine hv_aload_n C 0 1 dX11_contract_8 rfl rfl ?_
  refine zc_get C K (v := .ref (b + 1)) 0 rfl hu_12 (by decide) cw_0 rfl fl_X11_10 rfl dX11_contract_9 ?_
  refine hv_iconst C dX11_contract_12 ?_
  refine zc_put C K 12 rfl hu_9 tyX8 tyX8_ok nmX8 (by decide) (cw_at 1 rfl) (cw_set 1 12 0 rfl) fl_X11_170 rfl rfl (ty := .int) (by decide +kernel) rfl rfl (Nat.le_of_ble_eq_true rfl) dX11_contract_13 ?_
  refine zt_st (τ2 := sA τ 1 (ua (τ 1) 12 0)) (by rw [u2_sA]) ?_
  refine hv_aload_n C 0 1 dX11_contract_16 rfl rfl ?_
  refine zc_get C K (v := .ref (b + 1)) 0 rfl hu_12 (by decide) cw_0 rfl fl_X11_10 rfl dX11_contract_17 ?_
  refine hv_iconst C dX11_contract_20 ?_
  refine zc_put C K 13 rfl hu_9 tyX8 tyX8_ok nmX8 (by decide) (cw_at 1 rfl) (cw_set 1 13 0 rfl) fl_X11_177 rfl rfl (ty := .int) (by decide +kernel) rfl rfl (Nat.le_of_ble_eq_true rfl) dX11_contract_21 ?_
  refine zt_st (τ2 := sA τ 1 (ua (ua (τ 1) 12 0) 13 0)) (by rw [u2_sA, sA_sA, sA_at]) ?_
  refine hv_aload_n C 0 1 dX11_contract_24 rfl rfl ?_
  refine zc_get C K (v := .ref (b + 1)) 0 rfl hu_12 (by decide) cw_0 rfl fl_X11_10 rfl dX11_contract_25 ?_
  refine hv_iconst C dX11_contract_28 ?_
  refine zc_put C K 14 rfl hu_9 tyX8 tyX8_ok nmX8 (by decide) (cw_at 1 rfl) (cw_set 1 14 (-1) rfl) fl_X11_180 rfl rfl (ty := .int) (by decide +kernel) rfl rfl (Nat.le_of_ble_eq_true rfl) dX11_contract_29 ?_
  refine zt_st (τ2 := cta τ) (by rw [u2_sA, sA_sA, sA_at]; rfl) ?_
  refine hv_iload_n C 1 2 dX11_contract_32 rfl rfl ?_
  refine zt_callS [.int (iz nw)] [] C K (k_X11_isNetwork l (cta τ) nw r_nw) ck_X11_115 (by decide) ⟨Nat.zero_le _, Nat.zero_le _⟩ rfl (Nat.le_of_ble_eq_true rfl) dX11_contract_33 ?_
  refine hv_as (xb (decide (0 ≤ nw ∧ nw ≤ 2))) rfl ?_
  refine hv_dif_ne C 42 dX11_contract_36 (by decide) (fun h36 => ?_) (fun h36 => ?_)
  · refine hv_aload_n C 0 1 dX11_contract_42 rfl rfl ?_
    refine zc_get C K (v := .ref (b + 44)) 5 rfl hu_12 (by decide) cw_0 rfl fl_X11_40 rfl dX11_contract_43 ?_
    refine hv_aload_n C 0 1 dX11_contract_46 rfl rfl ?_
    refine zc_get C K (v := .ref (b + 1)) 0 rfl hu_12 (by decide) cw_0 rfl fl_X11_10 rfl dX11_contract_47 ?_
    refine zc_get C K (v := .ref (b + 9)) 11 rfl hu_9 (by decide) (cw_at 1 rfl) rfl fl_X11_183 rfl dX11_contract_50 ?_
    refine hv_iload_n C 2 0 dX11_contract_53 rfl rfl ?_
    have hT2 : tpr A ln ((cta τ) 9) := by unfold cta; rw [sA_ne _ _ (by decide)]; exact hT
    refine zto_callV [.ref (b + 9), .int (iz ((ln : Nat) : Int))] [] C K O (cw_at 44 rfl) rfl (k_X5_split l A (cta τ) ln hT2 hl htx) ck_X11_187 (by decide) ⟨Nat.zero_le _, Nat.zero_le _⟩ rfl (Nat.le_of_ble_eq_true rfl) dX11_contract_54 ?_
    obtain ⟨S, hS⟩ : ∃ S : Nat → Nat → Int, S = spS A ln (cta τ) := ⟨_, rfl⟩
    refine zt_st (τ2 := S) hS.symm ?_
    obtain ⟨r1, r2⟩ := sp_r (A := A) (ln := ln) (τ := cta τ) hl
    rw [← hS] at r1 r2
    refine hv_aload_n C 0 1 dX11_contract_57 rfl rfl ?_
    refine zc_get C K (v := .ref (b + 44)) 5 rfl hu_12 (by decide) cw_0 rfl fl_X11_40 rfl dX11_contract_58 ?_
    obtain ⟨T, hTq⟩ : ∃ T : Nat → Nat → Int, T = rxS n S := ⟨_, rfl⟩
    refine zg_callV [] [] C K (cw_at 44 rfl) rfl (k_X5_readText l S hn r1 r2) ck_X11_191 (by decide) (by decide) rfl (Nat.le_of_ble_eq_true rfl) dX11_contract_61 (r := none) (w2 := cv ar b n T w0) (n2 := n + 4) (fun r' w' n' h => ⟨h.1, by rw [hTq]; exact h.2.1, h.2.2⟩) ?_
    have RK := rk_rxw (pk := n) ((S 44 2).toNat + 1) 0 (rx0 n S) (ri_rx0 r1 r2).1
    have T6 : 0 ≤ T 44 6 ∧ T 44 6 ≤ 3 := by
      rw [hTq]; unfold rxS rxE
      split
      · rw [sA_at]; show (0 : Int) ≤ 3 ∧ (3 : Int) ≤ 3; decide
      · exact RK.1.2.1
    have T5 : T 44 5 = ((n : Nat) : Int) := by
      rw [hTq]; unfold rxS rxE
      split
      · rw [sA_at]; exact RK.1.2.2.2.1
      · exact RK.1.2.2.2.1
    refine hv_aload_n C 0 1 dX11_contract_64 rfl rfl ?_
    refine zc_get C K (v := .ref (b + 44)) 5 rfl hu_12 (by decide) (cv_at 0 rfl) rfl fl_X11_40 rfl dX11_contract_65 ?_
    refine zc_get C K (v := .int (iz (T 44 6))) 6 rfl hu_6 (by decide) (cv_at 44 rfl) rfl fl_X11_194 rfl dX11_contract_68 ?_
    refine hv_if_eq C 104 dX11_contract_71 (by decide) (by omega) (fun h71 => ?_) (fun h71 => ?_)
    · refine hv_aload_n C 0 1 dX11_contract_104 rfl rfl ?_
      refine zc_get C K (v := .ref (b + 1)) 0 rfl hu_12 (by decide) (cv_at 0 rfl) rfl fl_X11_10 rfl dX11_contract_105 ?_
      refine zc_get C K (v := .ref (b + 10)) 15 rfl hu_9 (by decide) (cv_at 1 rfl) rfl fl_X11_196 rfl dX11_contract_108 ?_
      obtain ⟨q, rfl⟩ : ∃ q : Nat, nw = (q : Int) := ⟨nw.toNat, by omega⟩
      refine hv_iload_n C 1 2 dX11_contract_111 rfl rfl ?_
      refine hv_aload_n C 0 1 dX11_contract_112 rfl rfl ?_
      refine zc_get C K (v := .ref (b + 44)) 5 rfl hu_12 (by decide) (cv_at 0 rfl) rfl fl_X11_40 rfl dX11_contract_113 ?_
      refine zc_get C K (v := va_rf (rfv (T 44 5))) 5 rfl hu_6 (by decide) (cv_at 44 rfl) rfl fl_X11_200 rfl dX11_contract_116 ?_
      refine hv_asv (.ref n) (by rw [T5, rfv_n]; rfl) ?_
      have e10 : zc_u (cv ar b n T w0) (b + 10) (.inl (ar 3, 3, .inr (.inr (.inr (.inr (fun i => if i = q then some n else (fun i => rfv (T 10 i)) i)))))) = cv ar b n (sA T 10 (ua (T 10) q ((n : Nat) : Int))) w0 := by
        have ef : (fun i => if i = q then some n else (fun i => rfv (T 10 i)) i) = fun i => rfv (ua (T 10) q ((n : Nat) : Int) i) := by
          funext i
          unfold ua
          by_cases c9 : i = q
          · rw [if_pos c9, if_pos c9, rfv_n]
          · rw [if_neg c9, if_neg c9]
        rw [ef]
        have z := cv_set (ar := ar) (b := b) (pk := n) (τ := T) (w0 := w0) 10 q ((n : Nat) : Int) rfl
        rw [u2_sA] at z
        exact z
      refine zc_aast C K (w2 := cv ar b n (sA T 10 (ua (T 10) q ((n : Nat) : Int))) w0) (f := (fun i => rfv (T 10 i))) 3 q (cv_at 10 rfl) rfl (cv_k100 hn) rfl (Or.inr rfl) e10 rfl (by omega) (by decide) dX11_contract_119 ?_
      have t44 : (sA T 10 (ua (T 10) q ((n : Nat) : Int))) 44 = T 44 := sA_ne _ _ (by decide)
      have t100 : (sA T 10 (ua (T 10) q ((n : Nat) : Int))) 100 = T 100 := sA_ne _ _ (by decide)
      refine hv_aload_n C 0 1 dX11_contract_120 rfl rfl ?_
      refine zc_get C K (v := .ref (b + 44)) 5 rfl hu_12 (by decide) (cv_at 0 rfl) rfl fl_X11_40 rfl dX11_contract_121 ?_
      refine zc_get C K (v := va_rf (rfv ((sA T 10 (ua (T 10) q ((n : Nat) : Int))) 44 5))) 5 rfl hu_6 (by decide) (cv_at 44 rfl) rfl fl_X11_200 rfl dX11_contract_124 ?_
      refine hv_asv (.ref n) (by rw [t44, T5, rfv_n]; rfl) ?_
      refine zc_get C K (v := .int (iz ((sA T 10 (ua (T 10) q ((n : Nat) : Int))) 100 0))) 0 rfl hu_2 (by decide) (cv_k100 hn) rfl fl_X11_204 rfl dX11_contract_127 ?_
      refine hv_as (T 100 0) (by rw [t100]) ?_
      refine zc_iret C hr hlk (Or.inr ⟨h36, T, by rw [hTq, hS], rfl, Or.inr ⟨h71, rfl, ?_⟩⟩) dX11_contract_130
      rw [Int.toNat_natCast]
    · refine hv_aload_n C 0 1 dX11_contract_74 rfl rfl ?_
      refine zc_get C K (v := .ref (b + 1)) 0 rfl hu_12 (by decide) (cv_at 0 rfl) rfl fl_X11_10 rfl dX11_contract_75 ?_
      refine hv_aload_n C 0 1 dX11_contract_78 rfl rfl ?_
      refine zc_get C K (v := .ref (b + 44)) 5 rfl hu_12 (by decide) (cv_at 0 rfl) rfl fl_X11_40 rfl dX11_contract_79 ?_
      refine zc_get C K (v := .int (iz (T 44 6))) 6 rfl hu_6 (by decide) (cv_at 44 rfl) rfl fl_X11_194 rfl dX11_contract_82 ?_
      refine zc_put C K 13 rfl hu_9 tyX8 tyX8_ok nmX8 (by decide) (cv_at 1 rfl) (cv_set 1 13 (T 44 6) rfl) fl_X11_177 rfl rfl (ty := .int) (by decide +kernel) rfl rfl (Nat.le_of_ble_eq_true rfl) dX11_contract_85 ?_
      refine zk_st (τ2 := sA T 1 (ua (T 1) 13 (T 44 6))) (by rw [u2_sA]) ?_
      refine hv_aload_n C 0 1 dX11_contract_88 rfl rfl ?_
      refine zc_get C K (v := .ref (b + 1)) 0 rfl hu_12 (by decide) (cv_at 0 rfl) rfl fl_X11_10 rfl dX11_contract_89 ?_
      refine hv_aload_n C 0 1 dX11_contract_92 rfl rfl ?_
      refine zc_get C K (v := .ref (b + 44)) 5 rfl hu_12 (by decide) (cv_at 0 rfl) rfl fl_X11_40 rfl dX11_contract_93 ?_
      refine zc_get C K (v := .int (iz (T 44 7))) 7 rfl hu_6 (by decide) (cv_at 44 rfl) rfl fl_X11_195 rfl dX11_contract_96 ?_
      refine zc_put C K 14 rfl hu_9 tyX8 tyX8_ok nmX8 (by decide) (cv_at 1 rfl) (cv_set 1 14 (T 44 7) rfl) fl_X11_180 rfl rfl (ty := .int) (by decide +kernel) rfl rfl (Nat.le_of_ble_eq_true rfl) dX11_contract_99 ?_
      refine zk_st (τ2 := sA T 1 (ua (ua (T 1) 13 (T 44 6)) 14 (T 44 7))) (by rw [u2_sA, sA_sA, sA_at]) ?_
      refine hv_iconst C dX11_contract_102 ?_
      exact zc_iret C hr hlk (Or.inr ⟨h36, T, by rw [hTq, hS], rfl, Or.inl ⟨h71, rfl, rfl⟩⟩) dX11_contract_103
  · refine hv_bipush C dX11_contract_39 (by decide) ?_
    refine hv_widen 4 292 (by decide) (by decide) ?_
    exact zc_iret C hr hlk (Or.inl ⟨h36, rfl, rfl, rfl⟩) dX11_contract_41

