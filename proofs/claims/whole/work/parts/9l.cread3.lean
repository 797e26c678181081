/-! the class's reader: lines, the whole text -/
def rx00 (n : Nat) (τ : Nat → Nat → Int) : Nat → Nat → Int := sA (sA (sA (sA (sA τ 44 (ua (τ 44) 5 ((n : Nat) : Int))) 100 (fun _ => 0)) 101 (fun _ => 0)) 102 (fun _ => 0)) 103 (fun _ => 0)
def rx0 (n : Nat) (τ : Nat → Nat → Int) : Nat → Nat → Int := sA (rx00 n τ) 44 (ua (ua (ua (ua (rx00 n τ 44) 3 0) 4 (-1)) 6 0) 7 (-1))
def rxS (n : Nat) (τ : Nat → Nat → Int) : Nat → Nat → Int := rxE (rxw ((τ 44 2).toNat + 1) 0 (rx0 n τ))
theorem rx00_44 (n : Nat) (τ : Nat → Nat → Int) : rx00 n τ 44 = ua (τ 44) 5 ((n : Nat) : Int) := by
  unfold rx00
  rw [sA_ne _ _ (by decide), sA_ne _ _ (by decide), sA_ne _ _ (by decide), sA_ne _ _ (by decide), sA_at]
theorem rx00_o (n : Nat) (τ : Nat → Nat → Int) {j : Nat} (h : j ≠ 44) (h2 : j < 100) : rx00 n τ j = τ j := by
  unfold rx00
  rw [sA_ne _ _ (by omega), sA_ne _ _ (by omega), sA_ne _ _ (by omega), sA_ne _ _ (by omega), sA_ne _ _ h]
theorem rx00_k (n : Nat) (τ : Nat → Nat → Int) {j : Nat} (h : 100 ≤ j) (h2 : j ≤ 103) : rx00 n τ j = fun _ => 0 := by
  unfold rx00
  rcases (by omega : j = 100 ∨ j = 101 ∨ j = 102 ∨ j = 103) with rfl | rfl | rfl | rfl
  · rw [sA_ne _ _ (by decide), sA_ne _ _ (by decide), sA_ne _ _ (by decide), sA_at]
  · rw [sA_ne _ _ (by decide), sA_ne _ _ (by decide), sA_at]
  · rw [sA_ne _ _ (by decide), sA_at]
  · rw [sA_at]
theorem ri_rx0 {n : Nat} {τ : Nat → Nat → Int} (h2 : 0 ≤ τ 44 2 ∧ τ 44 2 ≤ 500) (h6 : ∀ i : Nat, (i : Int) ≤ τ 44 2 → inI (τ 45 i) ∧ inI (τ 46 i)) : RI9 n (rx0 n τ) ∧ rx0 n τ 44 2 = τ 44 2 := by
  have e : ∀ j, j ≠ 44 → rx0 n τ j = rx00 n τ j := fun j hj => sA_ne _ _ hj
  have e4 : rx0 n τ 44 = ua (ua (ua (ua (ua (τ 44) 5 ((n : Nat) : Int)) 3 0) 4 (-1)) 6 0) 7 (-1) := by
    unfold rx0
    rw [sA_at, rx00_44]
  have f2 : rx0 n τ 44 2 = τ 44 2 := by rw [e4]; rfl
  have f3 : rx0 n τ 44 3 = 0 := by rw [e4]; rfl
  have f4 : rx0 n τ 44 4 = -1 := by rw [e4]; rfl
  have f5 : rx0 n τ 44 5 = (n : Int) := by rw [e4]; rfl
  have f6 : rx0 n τ 44 6 = 0 := by rw [e4]; rfl
  refine ⟨⟨by omega, by omega, by rw [f4]; decide, f5, ?_, ?_, fun i hi => ?_⟩, f2⟩
  · rw [e 100 (by decide), rx00_k n τ (by decide) (by decide)]; show (0 : Int) ≤ 0 ∧ (0 : Int) ≤ 16; decide
  · rw [f2, e 45 (by decide), e 46 (by decide), rx00_o n τ (by decide) (by decide), rx00_o n τ (by decide) (by decide)]; exact h6
  · rw [e 102 (by decide), rx00_k n τ (by decide) (by decide)]; show (0 : Int) ≤ 0 ∧ (0 : Int) ≤ 4; decide
/-- a new contract -/
def nC9 (ar : Nat → ClassId) (b n : Nat) (τ : Nat → Nat → Int) (w0 : zcW) : zcW := zc_u (zc_u (zc_u (zc_u (zc_u (cw ar b τ w0) n (.inr (2, [.int (iz 0), .null, .null, .null]))) (n + 1) (.inl (ar 0, 16, .inl (fun q => iz ((fun _ => (0 : Int)) q))))) n (.inr (2, [.int (iz 0), .ref (n + 1), .ref (n + 2), .ref (n + 3)]))) (n + 2) (.inl (ar 0, 16, .inl (fun q => iz ((fun _ => (0 : Int)) q))))) (n + 3) (.inl (ar 0, 256, .inl (fun q => iz ((fun _ => (0 : Int)) q))))
theorem nC_f {ar : Nat → ClassId} {b n : Nat} {τ : Nat → Nat → Int} {w0 : zcW} (hk : b + 47 ≤ n) : zc_u (nC9 ar b n τ w0) (b + 44) (.inr (6, [.ref (b + 45), .ref (b + 46), .int (iz (τ 44 2)), .int (iz (τ 44 3)), .int (iz (τ 44 4)), .ref n, .int (iz (τ 44 6)), .int (iz (τ 44 7))])) = cv ar b n (rx00 n τ) w0 := by
  funext a
  by_cases c44 : a = b + 44
  · subst c44
    rw [zg_at]
    symm
    refine cv_at 44 ?_
    rw [rx00_44]
    show some (Sum.inr (6, [.ref (b + 45), .ref (b + 46), .int (iz (τ 44 2)), .int (iz (τ 44 3)), .int (iz (τ 44 4)), va_rf (rfv ((n : Nat) : Int)), .int (iz (τ 44 6)), .int (iz (τ 44 7))])) = _
    rw [rfv_n]; rfl
  rw [zg_no c44]
  unfold nC9
  by_cases c3 : a = n + 3
  · subst c3; rw [zg_at, cv_k103 hk, rx00_k n τ (by decide) (by decide)]
  rw [zg_no c3]
  by_cases c2 : a = n + 2
  · subst c2; rw [zg_at, cv_k102 hk, rx00_k n τ (by decide) (by decide)]
  rw [zg_no c2]
  by_cases c0 : a = n
  · rw [c0, zg_at, cv_k100 hk, rx00_k n τ (by decide) (by decide)]
  rw [zg_no c0]
  by_cases c1 : a = n + 1
  · subst c1; rw [zg_at, cv_k101 hk, rx00_k n τ (by decide) (by decide)]
  rw [zg_no c1, zg_no c0]
  have kn : kw ar n (rx00 n τ) w0 a = w0 a := by
    unfold kw
    rw [if_neg c0, if_neg c1, if_neg c2, if_neg c3]
  unfold cv cw
  rw [kn]
  by_cases z : a < b
  · rw [if_pos z, if_pos z]
  · rw [if_neg z, if_neg z]
    by_cases d : a - b < 47
    · rw [rx00_o n τ (by omega) (by omega)]
    · rw [gcell_none ar b _ (by omega), gcell_none ar b _ (by omega)]

theorem dX5_readTests_0 : decode cX5_readTests 0 = .ok (.aload_n 0, 1) := by decide +kernel
theorem dX5_readTests_1 : decode cX5_readTests 1 = .ok (.bipush 8, 2) := by decide +kernel
theorem dX5_readTests_3 : decode cX5_readTests 3 = .ok (.bipush 8, 2) := by decide +kernel
theorem dX5_readTests_5 : decode cX5_readTests 5 = .ok (.invokevirtual 95, 3) := by decide +kernel
theorem dX5_readTests_8 : decode cX5_readTests 8 = .ok (.pop, 1) := by decide +kernel
theorem dX5_readTests_9 : decode cX5_readTests 9 = .ok (.aload_n 0, 1) := by decide +kernel
theorem dX5_readTests_10 : decode cX5_readTests 10 = .ok (.invokevirtual 101, 3) := by decide +kernel
theorem dX5_readTests_13 : decode cX5_readTests 13 = .ok (.iconst 1, 1) := by decide +kernel
theorem dX5_readTests_14 : decode cX5_readTests 14 = .ok (.istore_n 1, 1) := by decide +kernel
theorem dX5_readTests_15 : decode cX5_readTests 15 = .ok (.iload_n 1, 1) := by decide +kernel
theorem dX5_readTests_16 : decode cX5_readTests 16 = .ok (.aload_n 0, 1) := by decide +kernel
theorem dX5_readTests_17 : decode cX5_readTests 17 = .ok (.getfield 31, 3) := by decide +kernel
theorem dX5_readTests_20 : decode cX5_readTests 20 = .ok (.if_icmp .gt 43, 3) := by decide +kernel
theorem dX5_readTests_23 : decode cX5_readTests 23 = .ok (.aload_n 0, 1) := by decide +kernel
theorem dX5_readTests_24 : decode cX5_readTests 24 = .ok (.getfield 73, 3) := by decide +kernel
theorem dX5_readTests_27 : decode cX5_readTests 27 = .ok (.ifCond .ne 36, 3) := by decide +kernel
theorem dX5_readTests_30 : decode cX5_readTests 30 = .ok (.aload_n 0, 1) := by decide +kernel
theorem dX5_readTests_31 : decode cX5_readTests 31 = .ok (.getfield 9, 3) := by decide +kernel
theorem dX5_readTests_34 : decode cX5_readTests 34 = .ok (.aload_n 0, 1) := by decide +kernel
theorem dX5_readTests_35 : decode cX5_readTests 35 = .ok (.getfield 70, 3) := by decide +kernel
theorem dX5_readTests_38 : decode cX5_readTests 38 = .ok (.iaload, 1) := by decide +kernel
theorem dX5_readTests_39 : decode cX5_readTests 39 = .ok (.bipush 9, 2) := by decide +kernel
theorem dX5_readTests_41 : decode cX5_readTests 41 = .ok (.if_icmp .ne 22, 3) := by decide +kernel
theorem dX5_readTests_44 : decode cX5_readTests 44 = .ok (.aload_n 0, 1) := by decide +kernel
theorem dX5_readTests_45 : decode cX5_readTests 45 = .ok (.bipush 9, 2) := by decide +kernel
theorem dX5_readTests_47 : decode cX5_readTests 47 = .ok (.bipush 9, 2) := by decide +kernel
theorem dX5_readTests_49 : decode cX5_readTests 49 = .ok (.invokevirtual 95, 3) := by decide +kernel
theorem dX5_readTests_52 : decode cX5_readTests 52 = .ok (.pop, 1) := by decide +kernel
theorem dX5_readTests_53 : decode cX5_readTests 53 = .ok (.aload_n 0, 1) := by decide +kernel
theorem dX5_readTests_54 : decode cX5_readTests 54 = .ok (.invokevirtual 101, 3) := by decide +kernel
theorem dX5_readTests_57 : decode cX5_readTests 57 = .ok (.iinc 1 1, 3) := by decide +kernel
theorem dX5_readTests_60 : decode cX5_readTests 60 = .ok (.goto (-45), 3) := by decide +kernel
theorem dX5_readTests_63 : decode cX5_readTests 63 = .ok (.aload_n 0, 1) := by decide +kernel
theorem dX5_readTests_64 : decode cX5_readTests 64 = .ok (.iconst 2, 1) := by decide +kernel
theorem dX5_readTests_65 : decode cX5_readTests 65 = .ok (.iconst 2, 1) := by decide +kernel
theorem dX5_readTests_66 : decode cX5_readTests 66 = .ok (.invokevirtual 95, 3) := by decide +kernel
theorem dX5_readTests_69 : decode cX5_readTests 69 = .ok (.pop, 1) := by decide +kernel
theorem dX5_readTests_70 : decode cX5_readTests 70 = .ok (.return_, 1) := by decide +kernel
theorem ck_X5_101 : zcV RX5 RX5 yX5_readTest cX5_readTest 6 none 101 0 := ⟨hk_tq4 40 (by decide +kernel) (by decide +kernel), hk_tq4 37 (by decide +kernel) (by decide +kernel), hk_tq1 10 (by decide +kernel) (by decide +kernel), ⟨by decide, by decide, by decide +kernel⟩, hk_tq4 39 (by decide +kernel) (by decide +kernel), hk_s 10 (by decide +kernel) (by decide +kernel)⟩
set_option maxRecDepth 100000 in
set_option maxHeartbeats 4000000 in
theorem k_X5_readTests (l : Launch) {D : va_G} {ar : Nat → ClassId} {B : Nat → Prop} {b n : Nat} {w0 : zcW} {pk : Nat} (τ : Nat → Nat → Int)  (hk : b + 47 ≤ pk) (hI : RI9 pk τ) : zk_M l D ar B b pk w0 n yX5_readTests cX5_readTests 2 none 3 71 [.ref (b + 44)] τ none (rsS τ) := by
  refine zc_start (own := RX5) (by decide +kernel) rfl (Nat.le_of_ble_eq_true rfl) ?_
  intro p e s m args below meth c C K hr hlk hnam
  have hI0 := hI
  have zτ := hI0.t
  unfold tkT tkP at zτ
  obtain ⟨i1, i2, i3, i4, i5, i6, i7⟩ := hI
  refine hv_aload_n C 0 0 dX5_readTests_0 rfl rfl ?_
  refine hv_bipush C dX5_readTests_1 (by decide) ?_
  refine hv_bipush C dX5_readTests_3 (by decide) ?_
  refine zk_callV [.int (iz 8), .int (iz 8)] [] C K (cv_at 44 rfl) rfl (k_X5_take l  τ 8 8 hk hI0 (by omega) (by omega)) ck_X5_95 (by decide) ⟨Nat.zero_le _, Nat.zero_le _⟩ rfl (Nat.le_of_ble_eq_true rfl) dX5_readTests_5 ?_
  refine hv_as ((tkv τ 8 8)) rfl ?_
  obtain ⟨τ1, eτ1⟩ : ∃ t9 : Nat → Nat → Int, t9 = tks τ 8 8 := ⟨_, rfl⟩
  refine zk_st (τ2 := τ1) eτ1.symm ?_
  have Kτ1 : RK9 pk τ τ1 := by rw [eτ1]; exact rk_tks hI0 _ _
  have Iτ1 : RI9 pk τ1 := Kτ1.1
  have Jτ1 := Iτ1
  have zτ1 := Iτ1.t
  unfold tkT tkP at zτ1
  obtain ⟨i1τ1, i2τ1, i3τ1, i4τ1, i5τ1, i6τ1, i7τ1⟩ := Jτ1
  have vτ1 := tkv_r τ 8 8
  have lτ1 := Kτ1.2.1
  refine hv_pop C dX5_readTests_8 rfl ?_
  refine hv_aload_n C 0 0 dX5_readTests_9 rfl rfl ?_
  refine zk_callV [] [] C K (cv_at 44 rfl) rfl (k_X5_readTest l  τ1  hk Iτ1) ck_X5_101 (by decide) ⟨Nat.zero_le _, Nat.zero_le _⟩ rfl (Nat.le_of_ble_eq_true rfl) dX5_readTests_10 ?_
  obtain ⟨τ2, eτ2⟩ : ∃ t9 : Nat → Nat → Int, t9 = rtS τ1 := ⟨_, rfl⟩
  refine zk_st (τ2 := τ2) eτ2.symm ?_
  have Kτ2 : RK9 pk τ1 τ2 := by rw [eτ2]; exact rk_rtS Iτ1
  have Iτ2 : RI9 pk τ2 := Kτ2.1
  have Jτ2 := Iτ2
  have zτ2 := Iτ2.t
  unfold tkT tkP at zτ2
  obtain ⟨i1τ2, i2τ2, i3τ2, i4τ2, i5τ2, i6τ2, i7τ2⟩ := Jτ2
  have lτ2 := Kτ2.2.1
  refine hv_iconst C dX5_readTests_13 ?_
  refine hv_istore_n C 1 [(1, .int (iz 1)), (0, .ref (b + 44))] dX5_readTests_14 rfl (by decide) rfl ?_
  have L15 : ∀ (f : Nat) (te : Nat) (tb : Nat → Nat → Int), (τ 44 2).toNat + 1 - te < f → (RI9 pk tb) → (tb 44 2 = τ 44 2) → (1 ≤ te ∧ (te : Int) ≤ τ 44 2 + 1) → (tks (rlw ((τ 44 2).toNat + 1 - te) tb) 2 2 = rsS τ) → hvV p l e { frames := 3, cells := 0, slots := 0, locals := 71 } s m args below meth c 2 B 0 0 (MQ below (zc_Q D B (fun r' w' n' => r' = none ∧ w' = cv ar b pk (rsS τ) w0 ∧ n' = n)) args s 0 0 B) (zc_I D B (cv ar b pk tb w0) n s.heap) 15 [(0, .ref (b + 44)), (1, .int (iz ((te : Nat) : Int)))] [] := by
    intro f
    induction f with
    | zero => intro _ _ hm; exact absurd hm (Nat.not_lt_zero _)
    | succ f ih15 =>
      intro te tb hm15 Itb hl2 hte hrs
      have Jtb := Itb
      have ztb := Itb.t
      unfold tkT tkP at ztb
      obtain ⟨i1tb, i2tb, i3tb, i4tb, i5tb, i6tb, i7tb⟩ := Jtb
      refine hv_iload_n C 1 1 dX5_readTests_15 rfl rfl ?_
      refine hv_aload_n C 0 0 dX5_readTests_16 rfl rfl ?_
      refine zc_get C K (v := .int (iz (tb 44 2))) 2 rfl hu_6 (by decide) (cv_at 44 rfl) rfl fl_X5_31 rfl dX5_readTests_17 ?_
      refine hv_icmp_gt C 63 dX5_readTests_20 (by decide) (by omega) (by omega) (fun h20 => ?_) (fun h20 => ?_)
      · skip
        refine hv_aload_n C 0 0 dX5_readTests_63 rfl rfl ?_
        refine hv_iconst C dX5_readTests_64 ?_
        refine hv_iconst C dX5_readTests_65 ?_
        refine zk_callV [.int (iz 2), .int (iz 2)] [] C K (cv_at 44 rfl) rfl (k_X5_take l  tb 2 2 hk Itb (by omega) (by omega)) ck_X5_95 (by decide) ⟨Nat.zero_le _, Nat.zero_le _⟩ rfl (Nat.le_of_ble_eq_true rfl) dX5_readTests_66 ?_
        refine hv_as ((tkv tb 2 2)) rfl ?_
        obtain ⟨τ3, eτ3⟩ : ∃ t9 : Nat → Nat → Int, t9 = tks tb 2 2 := ⟨_, rfl⟩
        refine zk_st (τ2 := τ3) eτ3.symm ?_
        have Kτ3 : RK9 pk tb τ3 := by rw [eτ3]; exact rk_tks Itb _ _
        have Iτ3 : RI9 pk τ3 := Kτ3.1
        have Jτ3 := Iτ3
        have zτ3 := Iτ3.t
        unfold tkT tkP at zτ3
        obtain ⟨i1τ3, i2τ3, i3τ3, i4τ3, i5τ3, i6τ3, i7τ3⟩ := Jτ3
        have vτ3 := tkv_r tb 2 2
        have lτ3 := Kτ3.2.1
        refine hv_pop C dX5_readTests_69 rfl ?_
        exact zk_vret C hr hlk (by subst_vars; rw [← hrs, rlw_e (f := (τ 44 2).toNat + 1 - te) (τ := tb) (by first | (left; omega) | (right; intro z9; unfold tkT at z9; omega))]) dX5_readTests_70
      · skip
        refine hv_aload_n C 0 0 dX5_readTests_23 rfl rfl ?_
        refine zc_get C K (v := .int (iz (tb 44 6))) 6 rfl hu_6 (by decide) (cv_at 44 rfl) rfl fl_X5_73 rfl dX5_readTests_24 ?_
        refine hv_if_ne C 63 dX5_readTests_27 (by decide) (by omega) (fun h27 => ?_) (fun h27 => ?_)
        · skip
          refine hv_aload_n C 0 0 dX5_readTests_63 rfl rfl ?_
          refine hv_iconst C dX5_readTests_64 ?_
          refine hv_iconst C dX5_readTests_65 ?_
          refine zk_callV [.int (iz 2), .int (iz 2)] [] C K (cv_at 44 rfl) rfl (k_X5_take l  tb 2 2 hk Itb (by omega) (by omega)) ck_X5_95 (by decide) ⟨Nat.zero_le _, Nat.zero_le _⟩ rfl (Nat.le_of_ble_eq_true rfl) dX5_readTests_66 ?_
          refine hv_as ((tkv tb 2 2)) rfl ?_
          obtain ⟨τ4, eτ4⟩ : ∃ t9 : Nat → Nat → Int, t9 = tks tb 2 2 := ⟨_, rfl⟩
          refine zk_st (τ2 := τ4) eτ4.symm ?_
          have Kτ4 : RK9 pk tb τ4 := by rw [eτ4]; exact rk_tks Itb _ _
          have Iτ4 : RI9 pk τ4 := Kτ4.1
          have Jτ4 := Iτ4
          have zτ4 := Iτ4.t
          unfold tkT tkP at zτ4
          obtain ⟨i1τ4, i2τ4, i3τ4, i4τ4, i5τ4, i6τ4, i7τ4⟩ := Jτ4
          have vτ4 := tkv_r tb 2 2
          have lτ4 := Kτ4.2.1
          refine hv_pop C dX5_readTests_69 rfl ?_
          exact zk_vret C hr hlk (by subst_vars; rw [← hrs, rlw_e (f := (τ 44 2).toNat + 1 - te) (τ := tb) (by first | (left; omega) | (right; intro z9; unfold tkT at z9; omega))]) dX5_readTests_70
        · skip
          refine hv_aload_n C 0 0 dX5_readTests_30 rfl rfl ?_
          refine zc_get C K (v := .ref (b + 45)) 0 rfl hu_6 (by decide) (cv_at 44 rfl) rfl fl_X5_9 rfl dX5_readTests_31 ?_
          refine hv_aload_n C 0 0 dX5_readTests_34 rfl rfl ?_
          refine zc_get C K (v := .int (iz (tb 44 3))) 3 rfl hu_6 (by decide) (cv_at 44 rfl) rfl fl_X5_70 rfl dX5_readTests_35 ?_
          refine zc_iald C K (f := (tb 45)) (((tb 44 3) : Int)).toNat (cv_at 45 rfl) (by omega) (by omega) (by decide) dX5_readTests_38 ?_
          refine hv_as (tb 45 (((tb 44 3) : Int)).toNat) rfl ?_
          refine hv_bipush C dX5_readTests_39 (by decide) ?_
          refine hv_icmp_ne C 63 dX5_readTests_41 (by decide) (by omega) (by omega) (fun h41 => ?_) (fun h41 => ?_)
          · skip
            refine hv_aload_n C 0 0 dX5_readTests_63 rfl rfl ?_
            refine hv_iconst C dX5_readTests_64 ?_
            refine hv_iconst C dX5_readTests_65 ?_
            refine zk_callV [.int (iz 2), .int (iz 2)] [] C K (cv_at 44 rfl) rfl (k_X5_take l  tb 2 2 hk Itb (by omega) (by omega)) ck_X5_95 (by decide) ⟨Nat.zero_le _, Nat.zero_le _⟩ rfl (Nat.le_of_ble_eq_true rfl) dX5_readTests_66 ?_
            refine hv_as ((tkv tb 2 2)) rfl ?_
            obtain ⟨τ5, eτ5⟩ : ∃ t9 : Nat → Nat → Int, t9 = tks tb 2 2 := ⟨_, rfl⟩
            refine zk_st (τ2 := τ5) eτ5.symm ?_
            have Kτ5 : RK9 pk tb τ5 := by rw [eτ5]; exact rk_tks Itb _ _
            have Iτ5 : RI9 pk τ5 := Kτ5.1
            have Jτ5 := Iτ5
            have zτ5 := Iτ5.t
            unfold tkT tkP at zτ5
            obtain ⟨i1τ5, i2τ5, i3τ5, i4τ5, i5τ5, i6τ5, i7τ5⟩ := Jτ5
            have vτ5 := tkv_r tb 2 2
            have lτ5 := Kτ5.2.1
            refine hv_pop C dX5_readTests_69 rfl ?_
            exact zk_vret C hr hlk (by subst_vars; rw [← hrs, rlw_e (f := (τ 44 2).toNat + 1 - te) (τ := tb) (by first | (left; omega) | (right; intro z9; unfold tkT at z9; omega))]) dX5_readTests_70
          · skip
            refine hv_aload_n C 0 0 dX5_readTests_44 rfl rfl ?_
            refine hv_bipush C dX5_readTests_45 (by decide) ?_
            refine hv_bipush C dX5_readTests_47 (by decide) ?_
            refine zk_callV [.int (iz 9), .int (iz 9)] [] C K (cv_at 44 rfl) rfl (k_X5_take l  tb 9 9 hk Itb (by omega) (by omega)) ck_X5_95 (by decide) ⟨Nat.zero_le _, Nat.zero_le _⟩ rfl (Nat.le_of_ble_eq_true rfl) dX5_readTests_49 ?_
            refine hv_as ((tkv tb 9 9)) rfl ?_
            obtain ⟨τ6, eτ6⟩ : ∃ t9 : Nat → Nat → Int, t9 = tks tb 9 9 := ⟨_, rfl⟩
            refine zk_st (τ2 := τ6) eτ6.symm ?_
            have Kτ6 : RK9 pk tb τ6 := by rw [eτ6]; exact rk_tks Itb _ _
            have Iτ6 : RI9 pk τ6 := Kτ6.1
            have Jτ6 := Iτ6
            have zτ6 := Iτ6.t
            unfold tkT tkP at zτ6
            obtain ⟨i1τ6, i2τ6, i3τ6, i4τ6, i5τ6, i6τ6, i7τ6⟩ := Jτ6
            have vτ6 := tkv_r tb 9 9
            have lτ6 := Kτ6.2.1
            refine hv_pop C dX5_readTests_52 rfl ?_
            refine hv_aload_n C 0 0 dX5_readTests_53 rfl rfl ?_
            refine zk_callV [] [] C K (cv_at 44 rfl) rfl (k_X5_readTest l  τ6  hk Iτ6) ck_X5_101 (by decide) ⟨Nat.zero_le _, Nat.zero_le _⟩ rfl (Nat.le_of_ble_eq_true rfl) dX5_readTests_54 ?_
            obtain ⟨τ7, eτ7⟩ : ∃ t9 : Nat → Nat → Int, t9 = rtS τ6 := ⟨_, rfl⟩
            refine zk_st (τ2 := τ7) eτ7.symm ?_
            have Kτ7 : RK9 pk τ6 τ7 := by rw [eτ7]; exact rk_rtS Iτ6
            have Iτ7 : RI9 pk τ7 := Kτ7.1
            have Jτ7 := Iτ7
            have zτ7 := Iτ7.t
            unfold tkT tkP at zτ7
            obtain ⟨i1τ7, i2τ7, i3τ7, i4τ7, i5τ7, i6τ7, i7τ7⟩ := Jτ7
            have lτ7 := Kτ7.2.1
            refine hv_iinc C 1 1 [(1, .int (iz (((te : Nat) : Int) + 1))), (0, .ref (b + 44))] dX5_readTests_57 rfl (by decide) rfl ?_
            refine hv_goto C 15 dX5_readTests_60 (by decide) ?_
            refine hv_loc [1, 0] [(0, .ref (b + 44)), (1, .int (iz (((te : Nat) : Int) + 1)))] rfl ?_
            exact ih15 (te + 1) τ7 (by omega) (by assumption) (by omega) (by omega) (by rw [← hrs, rlw_s (f := (τ 44 2).toNat + 1 - te) (τ := tb) (by omega) ⟨by omega, by (unfold tkT; omega)⟩]; subst_vars; rfl)
  refine hv_loc [1, 0] [(0, .ref (b + 44)), (1, .int (iz 1))] rfl ?_
  exact L15 _ 1 τ2 (Nat.lt_succ_self _) (by assumption) (by omega) (by omega) (by subst_vars; rfl)
theorem dX5_readLine_0 : decode cX5_readLine 0 = .ok (.aload_n 0, 1) := by decide +kernel
theorem dX5_readLine_1 : decode cX5_readLine 1 = .ok (.getfield 9, 3) := by decide +kernel
theorem dX5_readLine_4 : decode cX5_readLine 4 = .ok (.aload_n 0, 1) := by decide +kernel
theorem dX5_readLine_5 : decode cX5_readLine 5 = .ok (.getfield 70, 3) := by decide +kernel
theorem dX5_readLine_8 : decode cX5_readLine 8 = .ok (.iaload, 1) := by decide +kernel
theorem dX5_readLine_9 : decode cX5_readLine 9 = .ok (.bipush 8, 2) := by decide +kernel
theorem dX5_readLine_11 : decode cX5_readLine 11 = .ok (.if_icmp .ne 7, 3) := by decide +kernel
theorem dX5_readLine_14 : decode cX5_readLine 14 = .ok (.aload_n 0, 1) := by decide +kernel
theorem dX5_readLine_15 : decode cX5_readLine 15 = .ok (.invokevirtual 89, 3) := by decide +kernel
theorem dX5_readLine_18 : decode cX5_readLine 18 = .ok (.aload_n 0, 1) := by decide +kernel
theorem dX5_readLine_19 : decode cX5_readLine 19 = .ok (.invokevirtual 92, 3) := by decide +kernel
theorem dX5_readLine_22 : decode cX5_readLine 22 = .ok (.istore_n 1, 1) := by decide +kernel
theorem dX5_readLine_23 : decode cX5_readLine 23 = .ok (.aload_n 0, 1) := by decide +kernel
theorem dX5_readLine_24 : decode cX5_readLine 24 = .ok (.iconst 3, 1) := by decide +kernel
theorem dX5_readLine_25 : decode cX5_readLine 25 = .ok (.iconst 3, 1) := by decide +kernel
theorem dX5_readLine_26 : decode cX5_readLine 26 = .ok (.invokevirtual 95, 3) := by decide +kernel
theorem dX5_readLine_29 : decode cX5_readLine 29 = .ok (.pop, 1) := by decide +kernel
theorem dX5_readLine_30 : decode cX5_readLine 30 = .ok (.aload_n 0, 1) := by decide +kernel
theorem dX5_readLine_31 : decode cX5_readLine 31 = .ok (.getfield 73, 3) := by decide +kernel
theorem dX5_readLine_34 : decode cX5_readLine 34 = .ok (.ifCond .ne 11, 3) := by decide +kernel
theorem dX5_readLine_37 : decode cX5_readLine 37 = .ok (.aload_n 0, 1) := by decide +kernel
theorem dX5_readLine_38 : decode cX5_readLine 38 = .ok (.getfield 21, 3) := by decide +kernel
theorem dX5_readLine_41 : decode cX5_readLine 41 = .ok (.iload_n 1, 1) := by decide +kernel
theorem dX5_readLine_42 : decode cX5_readLine 42 = .ok (.invokevirtual 98, 3) := by decide +kernel
theorem dX5_readLine_45 : decode cX5_readLine 45 = .ok (.return_, 1) := by decide +kernel
theorem ck_X5_92 : zcV RX5 RX5 yX5_readDeed cX5_readDeed 1 (some .int) 92 0 := ⟨hk_tq4 51 (by decide +kernel) (by decide +kernel), hk_tq4 48 (by decide +kernel) (by decide +kernel), hk_tq1 10 (by decide +kernel) (by decide +kernel), ⟨by decide, by decide, by decide +kernel⟩, hk_tq4 50 (by decide +kernel) (by decide +kernel), hk_s 11 (by decide +kernel) (by decide +kernel)⟩
theorem ck_X5_98 : zcV RX5 RX1 yX1_addLine cX1_addLine 2 none 98 1 := ⟨hk_tq4 55 (by decide +kernel) (by decide +kernel), hk_tq4 52 (by decide +kernel) (by decide +kernel), hk_tq1 7 (by decide +kernel) (by decide +kernel), ⟨by decide, by decide, by decide +kernel⟩, hk_tq4 53 (by decide +kernel) (by decide +kernel), hk_tq4 54 (by decide +kernel) (by decide +kernel)⟩
theorem ck_X5_89 : zcV RX5 RX5 yX5_readTests cX5_readTests 2 none 89 0 := ⟨hk_tq4 31 (by decide +kernel) (by decide +kernel), hk_tq4 28 (by decide +kernel) (by decide +kernel), hk_tq1 10 (by decide +kernel) (by decide +kernel), ⟨by decide, by decide, by decide +kernel⟩, hk_tq4 30 (by decide +kernel) (by decide +kernel), hk_s 8 (by decide +kernel) (by decide +kernel)⟩
set_option maxRecDepth 100000 in
set_option maxHeartbeats 4000000 in
theorem k_X5_readLine (l : Launch) {D : va_G} {ar : Nat → ClassId} {B : Nat → Prop} {b n : Nat} {w0 : zcW} {pk : Nat} (τ : Nat → Nat → Int)  (hk : b + 47 ≤ pk) (hI : RI9 pk τ) : zk_M l D ar B b pk w0 n yX5_readLine cX5_readLine 2 none 4 92 [.ref (b + 44)] τ none (rnS τ) := by
  refine zc_start (own := RX5) (by decide +kernel) rfl (Nat.le_of_ble_eq_true rfl) ?_
  intro p e s m args below meth c C K hr hlk hnam
  have hI0 := hI
  have zτ := hI0.t
  unfold tkT tkP at zτ
  obtain ⟨i1, i2, i3, i4, i5, i6, i7⟩ := hI
  refine hv_aload_n C 0 0 dX5_readLine_0 rfl rfl ?_
  refine zc_get C K (v := .ref (b + 45)) 0 rfl hu_6 (by decide) (cv_at 44 rfl) rfl fl_X5_9 rfl dX5_readLine_1 ?_
  refine hv_aload_n C 0 0 dX5_readLine_4 rfl rfl ?_
  refine zc_get C K (v := .int (iz (τ 44 3))) 3 rfl hu_6 (by decide) (cv_at 44 rfl) rfl fl_X5_70 rfl dX5_readLine_5 ?_
  refine zc_iald C K (f := (τ 45)) (((τ 44 3) : Int)).toNat (cv_at 45 rfl) (by omega) (by omega) (by decide) dX5_readLine_8 ?_
  refine hv_as (τ 45 (((τ 44 3) : Int)).toNat) rfl ?_
  refine hv_bipush C dX5_readLine_9 (by decide) ?_
  refine hv_icmp_ne C 18 dX5_readLine_11 (by decide) (by omega) (by omega) (fun h11 => ?_) (fun h11 => ?_)
  · skip
    refine hv_aload_n C 0 0 dX5_readLine_18 rfl rfl ?_
    refine zk_callV [] [] C K (cv_at 44 rfl) rfl (k_X5_readDeed l  τ  hk hI0) ck_X5_92 (by decide) ⟨Nat.zero_le _, Nat.zero_le _⟩ rfl (Nat.le_of_ble_eq_true rfl) dX5_readLine_19 ?_
    refine hv_as ((rdv τ)) rfl ?_
    obtain ⟨τ1, eτ1⟩ : ∃ t9 : Nat → Nat → Int, t9 = rds τ := ⟨_, rfl⟩
    refine zk_st (τ2 := τ1) eτ1.symm ?_
    have Kτ1 : RK9 pk τ τ1 := by rw [eτ1]; exact rk_rds hI0
    have Iτ1 : RI9 pk τ1 := Kτ1.1
    have Jτ1 := Iτ1
    have zτ1 := Iτ1.t
    unfold tkT tkP at zτ1
    obtain ⟨i1τ1, i2τ1, i3τ1, i4τ1, i5τ1, i6τ1, i7τ1⟩ := Jτ1
    have vτ1 := rdv_r τ
    have lτ1 := Kτ1.2.1
    refine hv_istore_n C 1 [(1, .int (iz (rdv τ))), (0, .ref (b + 44))] dX5_readLine_22 rfl (by decide) rfl ?_
    refine hv_aload_n C 0 1 dX5_readLine_23 rfl rfl ?_
    refine hv_iconst C dX5_readLine_24 ?_
    refine hv_iconst C dX5_readLine_25 ?_
    refine zk_callV [.int (iz 3), .int (iz 3)] [] C K (cv_at 44 rfl) rfl (k_X5_take l  τ1 3 3 hk Iτ1 (by omega) (by omega)) ck_X5_95 (by decide) ⟨Nat.zero_le _, Nat.zero_le _⟩ rfl (Nat.le_of_ble_eq_true rfl) dX5_readLine_26 ?_
    refine hv_as ((tkv τ1 3 3)) rfl ?_
    obtain ⟨τ2, eτ2⟩ : ∃ t9 : Nat → Nat → Int, t9 = tks τ1 3 3 := ⟨_, rfl⟩
    refine zk_st (τ2 := τ2) eτ2.symm ?_
    have Kτ2 : RK9 pk τ1 τ2 := by rw [eτ2]; exact rk_tks Iτ1 _ _
    have Iτ2 : RI9 pk τ2 := Kτ2.1
    have Jτ2 := Iτ2
    have zτ2 := Iτ2.t
    unfold tkT tkP at zτ2
    obtain ⟨i1τ2, i2τ2, i3τ2, i4τ2, i5τ2, i6τ2, i7τ2⟩ := Jτ2
    have vτ2 := tkv_r τ1 3 3
    have lτ2 := Kτ2.2.1
    refine hv_pop C dX5_readLine_29 rfl ?_
    refine hv_aload_n C 0 1 dX5_readLine_30 rfl rfl ?_
    refine zc_get C K (v := .int (iz (τ2 44 6))) 6 rfl hu_6 (by decide) (cv_at 44 rfl) rfl fl_X5_73 rfl dX5_readLine_31 ?_
    refine hv_if_ne C 45 dX5_readLine_34 (by decide) (by omega) (fun h34 => ?_) (fun h34 => ?_)
    · skip
      exact zk_vret C hr hlk (by subst_vars; unfold rnS; (first | rw [if_pos (by first | assumption | omega | (unfold tkT; omega))] | rw [if_neg (by first | assumption | omega | (unfold tkT; omega))]); unfold rn2 rn3; (first | rw [if_pos (by first | assumption | omega | (unfold tkT; omega))] | rw [if_neg (by first | assumption | omega | (unfold tkT; omega))]); (try rfl)) dX5_readLine_45
    · skip
      refine hv_aload_n C 0 1 dX5_readLine_37 rfl rfl ?_
      refine zc_get C K (v := va_rf (rfv ((τ2 44) 5))) 5 rfl hu_6 (by decide) (cv_at 44 rfl) rfl fl_X5_21 rfl dX5_readLine_38 ?_
      refine hv_asv (.ref pk) (by show va_rf (rfv (τ2 44 5)) = _; rw [i4τ2, rfv_n]; rfl) ?_
      refine hv_iload_n C 1 0 dX5_readLine_41 rfl rfl ?_
      refine zk_callV [.int (iz (rdv τ))] [] C K (cv_k100 hk) rfl (k_X1_addLine l  τ2 (rdv τ) hk Iτ2) ck_X5_98 (by decide) ⟨Nat.zero_le _, Nat.zero_le _⟩ rfl (Nat.le_of_ble_eq_true rfl) dX5_readLine_42 ?_
      obtain ⟨τ3, eτ3⟩ : ∃ t9 : Nat → Nat → Int, t9 = alT τ2 (rdv τ) := ⟨_, rfl⟩
      refine zk_st (τ2 := τ3) eτ3.symm ?_
      have Kτ3 : RK9 pk τ2 τ3 := by rw [eτ3]; exact rk_alT Iτ2 _
      have Iτ3 : RI9 pk τ3 := Kτ3.1
      have Jτ3 := Iτ3
      have zτ3 := Iτ3.t
      unfold tkT tkP at zτ3
      obtain ⟨i1τ3, i2τ3, i3τ3, i4τ3, i5τ3, i6τ3, i7τ3⟩ := Jτ3
      have lτ3 := Kτ3.2.1
      exact zk_vret C hr hlk (by subst_vars; unfold rnS; (first | rw [if_pos (by first | assumption | omega | (unfold tkT; omega))] | rw [if_neg (by first | assumption | omega | (unfold tkT; omega))]); unfold rn2 rn3; (first | rw [if_pos (by first | assumption | omega | (unfold tkT; omega))] | rw [if_neg (by first | assumption | omega | (unfold tkT; omega))]); (try rfl)) dX5_readLine_45
  · skip
    refine hv_aload_n C 0 0 dX5_readLine_14 rfl rfl ?_
    refine zk_callV [] [] C K (cv_at 44 rfl) rfl (k_X5_readTests l  τ  hk hI0) ck_X5_89 (by decide) ⟨Nat.zero_le _, Nat.zero_le _⟩ rfl (Nat.le_of_ble_eq_true rfl) dX5_readLine_15 ?_
    obtain ⟨τ4, eτ4⟩ : ∃ t9 : Nat → Nat → Int, t9 = rsS τ := ⟨_, rfl⟩
    refine zk_st (τ2 := τ4) eτ4.symm ?_
    have Kτ4 : RK9 pk τ τ4 := by rw [eτ4]; exact rk_rsS hI0
    have Iτ4 : RI9 pk τ4 := Kτ4.1
    have Jτ4 := Iτ4
    have zτ4 := Iτ4.t
    unfold tkT tkP at zτ4
    obtain ⟨i1τ4, i2τ4, i3τ4, i4τ4, i5τ4, i6τ4, i7τ4⟩ := Jτ4
    have lτ4 := Kτ4.2.1
    refine hv_aload_n C 0 0 dX5_readLine_18 rfl rfl ?_
    refine zk_callV [] [] C K (cv_at 44 rfl) rfl (k_X5_readDeed l  τ4  hk Iτ4) ck_X5_92 (by decide) ⟨Nat.zero_le _, Nat.zero_le _⟩ rfl (Nat.le_of_ble_eq_true rfl) dX5_readLine_19 ?_
    refine hv_as ((rdv τ4)) rfl ?_
    obtain ⟨τ5, eτ5⟩ : ∃ t9 : Nat → Nat → Int, t9 = rds τ4 := ⟨_, rfl⟩
    refine zk_st (τ2 := τ5) eτ5.symm ?_
    have Kτ5 : RK9 pk τ4 τ5 := by rw [eτ5]; exact rk_rds Iτ4
    have Iτ5 : RI9 pk τ5 := Kτ5.1
    have Jτ5 := Iτ5
    have zτ5 := Iτ5.t
    unfold tkT tkP at zτ5
    obtain ⟨i1τ5, i2τ5, i3τ5, i4τ5, i5τ5, i6τ5, i7τ5⟩ := Jτ5
    have vτ5 := rdv_r τ4
    have lτ5 := Kτ5.2.1
    refine hv_istore_n C 1 [(1, .int (iz (rdv τ4))), (0, .ref (b + 44))] dX5_readLine_22 rfl (by decide) rfl ?_
    refine hv_aload_n C 0 1 dX5_readLine_23 rfl rfl ?_
    refine hv_iconst C dX5_readLine_24 ?_
    refine hv_iconst C dX5_readLine_25 ?_
    refine zk_callV [.int (iz 3), .int (iz 3)] [] C K (cv_at 44 rfl) rfl (k_X5_take l  τ5 3 3 hk Iτ5 (by omega) (by omega)) ck_X5_95 (by decide) ⟨Nat.zero_le _, Nat.zero_le _⟩ rfl (Nat.le_of_ble_eq_true rfl) dX5_readLine_26 ?_
    refine hv_as ((tkv τ5 3 3)) rfl ?_
    obtain ⟨τ6, eτ6⟩ : ∃ t9 : Nat → Nat → Int, t9 = tks τ5 3 3 := ⟨_, rfl⟩
    refine zk_st (τ2 := τ6) eτ6.symm ?_
    have Kτ6 : RK9 pk τ5 τ6 := by rw [eτ6]; exact rk_tks Iτ5 _ _
    have Iτ6 : RI9 pk τ6 := Kτ6.1
    have Jτ6 := Iτ6
    have zτ6 := Iτ6.t
    unfold tkT tkP at zτ6
    obtain ⟨i1τ6, i2τ6, i3τ6, i4τ6, i5τ6, i6τ6, i7τ6⟩ := Jτ6
    have vτ6 := tkv_r τ5 3 3
    have lτ6 := Kτ6.2.1
    refine hv_pop C dX5_readLine_29 rfl ?_
    refine hv_aload_n C 0 1 dX5_readLine_30 rfl rfl ?_
    refine zc_get C K (v := .int (iz (τ6 44 6))) 6 rfl hu_6 (by decide) (cv_at 44 rfl) rfl fl_X5_73 rfl dX5_readLine_31 ?_
    refine hv_if_ne C 45 dX5_readLine_34 (by decide) (by omega) (fun h34 => ?_) (fun h34 => ?_)
    · skip
      exact zk_vret C hr hlk (by subst_vars; unfold rnS; (first | rw [if_pos (by first | assumption | omega | (unfold tkT; omega))] | rw [if_neg (by first | assumption | omega | (unfold tkT; omega))]); unfold rn2 rn3; (first | rw [if_pos (by first | assumption | omega | (unfold tkT; omega))] | rw [if_neg (by first | assumption | omega | (unfold tkT; omega))]); (try rfl)) dX5_readLine_45
    · skip
      refine hv_aload_n C 0 1 dX5_readLine_37 rfl rfl ?_
      refine zc_get C K (v := va_rf (rfv ((τ6 44) 5))) 5 rfl hu_6 (by decide) (cv_at 44 rfl) rfl fl_X5_21 rfl dX5_readLine_38 ?_
      refine hv_asv (.ref pk) (by show va_rf (rfv (τ6 44 5)) = _; rw [i4τ6, rfv_n]; rfl) ?_
      refine hv_iload_n C 1 0 dX5_readLine_41 rfl rfl ?_
      refine zk_callV [.int (iz (rdv τ4))] [] C K (cv_k100 hk) rfl (k_X1_addLine l  τ6 (rdv τ4) hk Iτ6) ck_X5_98 (by decide) ⟨Nat.zero_le _, Nat.zero_le _⟩ rfl (Nat.le_of_ble_eq_true rfl) dX5_readLine_42 ?_
      obtain ⟨τ7, eτ7⟩ : ∃ t9 : Nat → Nat → Int, t9 = alT τ6 (rdv τ4) := ⟨_, rfl⟩
      refine zk_st (τ2 := τ7) eτ7.symm ?_
      have Kτ7 : RK9 pk τ6 τ7 := by rw [eτ7]; exact rk_alT Iτ6 _
      have Iτ7 : RI9 pk τ7 := Kτ7.1
      have Jτ7 := Iτ7
      have zτ7 := Iτ7.t
      unfold tkT tkP at zτ7
      obtain ⟨i1τ7, i2τ7, i3τ7, i4τ7, i5τ7, i6τ7, i7τ7⟩ := Jτ7
      have lτ7 := Kτ7.2.1
      exact zk_vret C hr hlk (by subst_vars; unfold rnS; (first | rw [if_pos (by first | assumption | omega | (unfold tkT; omega))] | rw [if_neg (by first | assumption | omega | (unfold tkT; omega))]); unfold rn2 rn3; (first | rw [if_pos (by first | assumption | omega | (unfold tkT; omega))] | rw [if_neg (by first | assumption | omega | (unfold tkT; omega))]); (try rfl)) dX5_readLine_45
theorem dX5_readText_0 : decode cX5_readText 0 = .ok (.aload_n 0, 1) := by decide +kernel
theorem dX5_readText_1 : decode cX5_readText 1 = .ok (.new 18, 3) := by decide +kernel
theorem dX5_readText_4 : decode cX5_readText 4 = .ok (.dup, 1) := by decide +kernel
theorem dX5_readText_5 : decode cX5_readText 5 = .ok (.invokespecial 20, 3) := by decide +kernel
theorem dX5_readText_8 : decode cX5_readText 8 = .ok (.putfield 21, 3) := by decide +kernel
theorem dX5_readText_11 : decode cX5_readText 11 = .ok (.aload_n 0, 1) := by decide +kernel
theorem dX5_readText_12 : decode cX5_readText 12 = .ok (.iconst 0, 1) := by decide +kernel
theorem dX5_readText_13 : decode cX5_readText 13 = .ok (.putfield 70, 3) := by decide +kernel
theorem dX5_readText_16 : decode cX5_readText 16 = .ok (.aload_n 0, 1) := by decide +kernel
theorem dX5_readText_17 : decode cX5_readText 17 = .ok (.iconst 0, 1) := by decide +kernel
theorem dX5_readText_18 : decode cX5_readText 18 = .ok (.putfield 73, 3) := by decide +kernel
theorem dX5_readText_21 : decode cX5_readText 21 = .ok (.aload_n 0, 1) := by decide +kernel
theorem dX5_readText_22 : decode cX5_readText 22 = .ok (.iconst (-1), 1) := by decide +kernel
theorem dX5_readText_23 : decode cX5_readText 23 = .ok (.putfield 76, 3) := by decide +kernel
theorem dX5_readText_26 : decode cX5_readText 26 = .ok (.aload_n 0, 1) := by decide +kernel
theorem dX5_readText_27 : decode cX5_readText 27 = .ok (.iconst (-1), 1) := by decide +kernel
theorem dX5_readText_28 : decode cX5_readText 28 = .ok (.putfield 79, 3) := by decide +kernel
theorem dX5_readText_31 : decode cX5_readText 31 = .ok (.iconst 0, 1) := by decide +kernel
theorem dX5_readText_32 : decode cX5_readText 32 = .ok (.istore_n 1, 1) := by decide +kernel
theorem dX5_readText_33 : decode cX5_readText 33 = .ok (.iload_n 1, 1) := by decide +kernel
theorem dX5_readText_34 : decode cX5_readText 34 = .ok (.aload_n 0, 1) := by decide +kernel
theorem dX5_readText_35 : decode cX5_readText 35 = .ok (.getfield 31, 3) := by decide +kernel
theorem dX5_readText_38 : decode cX5_readText 38 = .ok (.if_icmp .gt 51, 3) := by decide +kernel
theorem dX5_readText_41 : decode cX5_readText 41 = .ok (.aload_n 0, 1) := by decide +kernel
theorem dX5_readText_42 : decode cX5_readText 42 = .ok (.getfield 73, 3) := by decide +kernel
theorem dX5_readText_45 : decode cX5_readText 45 = .ok (.ifCond .ne 44, 3) := by decide +kernel
theorem dX5_readText_48 : decode cX5_readText 48 = .ok (.aload_n 0, 1) := by decide +kernel
theorem dX5_readText_49 : decode cX5_readText 49 = .ok (.getfield 9, 3) := by decide +kernel
theorem dX5_readText_52 : decode cX5_readText 52 = .ok (.aload_n 0, 1) := by decide +kernel
theorem dX5_readText_53 : decode cX5_readText 53 = .ok (.getfield 70, 3) := by decide +kernel
theorem dX5_readText_56 : decode cX5_readText 56 = .ok (.iaload, 1) := by decide +kernel
theorem dX5_readText_57 : decode cX5_readText 57 = .ok (.ifCond .eq 32, 3) := by decide +kernel
theorem dX5_readText_60 : decode cX5_readText 60 = .ok (.iload_n 1, 1) := by decide +kernel
theorem dX5_readText_61 : decode cX5_readText 61 = .ok (.bipush 16, 2) := by decide +kernel
theorem dX5_readText_63 : decode cX5_readText 63 = .ok (.if_icmp .lt 16, 3) := by decide +kernel
theorem dX5_readText_66 : decode cX5_readText 66 = .ok (.aload_n 0, 1) := by decide +kernel
theorem dX5_readText_67 : decode cX5_readText 67 = .ok (.aload_n 0, 1) := by decide +kernel
theorem dX5_readText_68 : decode cX5_readText 68 = .ok (.getfield 15, 3) := by decide +kernel
theorem dX5_readText_71 : decode cX5_readText 71 = .ok (.aload_n 0, 1) := by decide +kernel
theorem dX5_readText_72 : decode cX5_readText 72 = .ok (.getfield 70, 3) := by decide +kernel
theorem dX5_readText_75 : decode cX5_readText 75 = .ok (.iaload, 1) := by decide +kernel
theorem dX5_readText_76 : decode cX5_readText 76 = .ok (.invokevirtual 82, 3) := by decide +kernel
theorem dX5_readText_79 : decode cX5_readText 79 = .ok (.aload_n 0, 1) := by decide +kernel
theorem dX5_readText_80 : decode cX5_readText 80 = .ok (.invokevirtual 86, 3) := by decide +kernel
theorem dX5_readText_83 : decode cX5_readText 83 = .ok (.iinc 1 1, 3) := by decide +kernel
theorem dX5_readText_86 : decode cX5_readText 86 = .ok (.goto (-53), 3) := by decide +kernel
theorem dX5_readText_89 : decode cX5_readText 89 = .ok (.aload_n 0, 1) := by decide +kernel
theorem dX5_readText_90 : decode cX5_readText 90 = .ok (.getfield 73, 3) := by decide +kernel
theorem dX5_readText_93 : decode cX5_readText 93 = .ok (.ifCond .ne 24, 3) := by decide +kernel
theorem dX5_readText_96 : decode cX5_readText 96 = .ok (.aload_n 0, 1) := by decide +kernel
theorem dX5_readText_97 : decode cX5_readText 97 = .ok (.getfield 79, 3) := by decide +kernel
theorem dX5_readText_100 : decode cX5_readText 100 = .ok (.iconst (-1), 1) := by decide +kernel
theorem dX5_readText_101 : decode cX5_readText 101 = .ok (.if_icmp .eq 16, 3) := by decide +kernel
theorem dX5_readText_104 : decode cX5_readText 104 = .ok (.aload_n 0, 1) := by decide +kernel
theorem dX5_readText_105 : decode cX5_readText 105 = .ok (.iconst 3, 1) := by decide +kernel
theorem dX5_readText_106 : decode cX5_readText 106 = .ok (.putfield 73, 3) := by decide +kernel
theorem dX5_readText_109 : decode cX5_readText 109 = .ok (.aload_n 0, 1) := by decide +kernel
theorem dX5_readText_110 : decode cX5_readText 110 = .ok (.aload_n 0, 1) := by decide +kernel
theorem dX5_readText_111 : decode cX5_readText 111 = .ok (.getfield 79, 3) := by decide +kernel
theorem dX5_readText_114 : decode cX5_readText 114 = .ok (.putfield 76, 3) := by decide +kernel
theorem dX5_readText_117 : decode cX5_readText 117 = .ok (.return_, 1) := by decide +kernel
theorem ck_X5_86 : zcV RX5 RX5 yX5_readLine cX5_readLine 2 none 86 0 := ⟨hk_tq4 27 (by decide +kernel) (by decide +kernel), hk_tq4 24 (by decide +kernel) (by decide +kernel), hk_tq1 10 (by decide +kernel) (by decide +kernel), ⟨by decide, by decide, by decide +kernel⟩, hk_tq4 26 (by decide +kernel) (by decide +kernel), hk_s 7 (by decide +kernel) (by decide +kernel)⟩
set_option maxRecDepth 100000 in
set_option maxHeartbeats 4000000 in
theorem k_X5_readText (l : Launch) {D : va_G} {ar : Nat → ClassId} {B : Nat → Prop} {b n : Nat} {w0 : zcW}  (τ : Nat → Nat → Int)  (hk : b + 47 ≤ n) (h2 : 0 ≤ τ 44 2 ∧ τ 44 2 ≤ 500) (h6 : ∀ i : Nat, (i : Int) ≤ τ 44 2 → inI (τ 45 i) ∧ inI (τ 46 i)) : zc_M l D ar B yX5_readText cX5_readText 2 none 5 113 4 292 [.ref (b + 44)] (cw ar b τ w0) n (fun r' w' n' => r' = none ∧ w' = cv ar b n (rxS n τ) w0 ∧ n' = n + 4) := by
  refine zc_start (own := RX5) (by decide +kernel) rfl (Nat.le_of_ble_eq_true rfl) ?_
  intro p e s m args below meth c C K hr hlk hnam
  refine hv_aload_n C 0 0 dX5_readText_0 rfl rfl ?_
  refine zg_new (ci := 2) C K [.int (iz 0), .null, .null, .null] rfl hu_2 tyX1 tyX1_ok cl_X5_18 is_X1 it_X1 (df_X1) (by decide) dX5_readText_1 (n2 := (n + 1)) rfl ?_
  refine hv_dup C dX5_readText_4 rfl ?_
  refine zg_callJ [] [.ref n, .ref (b + 44)] C K (g_X1_init l (by omega) zg_at) ci_X5_20 (by decide) (by decide) rfl (Nat.le_of_ble_eq_true rfl) dX5_readText_5 (w2 := nC9 ar b n τ w0) (n2 := (n + 4)) (fun r' w' n' h => ⟨h.1, h.2.1.trans (by unfold nC9; rfl), h.2.2.trans rfl⟩) ?_
  have h44 : nC9 ar b n τ w0 (b + 44) = some (.inr (6, [.ref (b + 45), .ref (b + 46), .int (iz (τ 44 2)), .int (iz (τ 44 3)), .int (iz (τ 44 4)), va_rf (rfv (τ 44 5)), .int (iz (τ 44 6)), .int (iz (τ 44 7))])) := by unfold nC9; rw [zg_no (by omega), zg_no (by omega), zg_no (by omega), zg_no (by omega), zg_no (by omega)]; exact cw_at 44 rfl
  refine zc_put C K (w2 := cv ar b n (rx00 n τ) w0) 5 rfl hu_6 tyX5 tyX5_ok nmX5 (by decide) h44 (nC_f hk) fl_X5_21 rfl rfl (ty := tyX5 5) (by decide +kernel) rfl rfl (Nat.le_of_ble_eq_true rfl) dX5_readText_8 ?_
  obtain ⟨τz, eτz⟩ : ∃ t9 : Nat → Nat → Int, t9 = rx00 n τ := ⟨_, rfl⟩
  refine zk_st (τ2 := τz) eτz.symm ?_
  refine hv_aload_n C 0 0 dX5_readText_11 rfl rfl ?_
  refine hv_iconst C dX5_readText_12 ?_
  refine zc_put C K 3 rfl hu_6 tyX5 tyX5_ok nmX5 (by decide) (cv_at 44 rfl) (cv_set 44 3 0 rfl) fl_X5_70 rfl rfl (ty := .int) (by decide +kernel) rfl rfl (Nat.le_of_ble_eq_true rfl) dX5_readText_13 ?_
  refine zk_st (τ2 := sA τz 44 (ua (τz 44) 3 0)) (by rw [u2_sA]; first | done | rfl) ?_
  refine hv_aload_n C 0 0 dX5_readText_16 rfl rfl ?_
  refine hv_iconst C dX5_readText_17 ?_
  refine zc_put C K 6 rfl hu_6 tyX5 tyX5_ok nmX5 (by decide) (cv_at 44 rfl) (cv_set 44 6 0 rfl) fl_X5_73 rfl rfl (ty := .int) (by decide +kernel) rfl rfl (Nat.le_of_ble_eq_true rfl) dX5_readText_18 ?_
  refine zk_st (τ2 := sA τz 44 (ua (ua (τz 44) 3 0) 6 0)) (by rw [u2_sA, sA_sA]; first | done | rfl) ?_
  refine hv_aload_n C 0 0 dX5_readText_21 rfl rfl ?_
  refine hv_iconst C dX5_readText_22 ?_
  refine zc_put C K 7 rfl hu_6 tyX5 tyX5_ok nmX5 (by decide) (cv_at 44 rfl) (cv_set 44 7 (-1) rfl) fl_X5_76 rfl rfl (ty := .int) (by decide +kernel) rfl rfl (Nat.le_of_ble_eq_true rfl) dX5_readText_23 ?_
  refine zk_st (τ2 := sA τz 44 (ua (ua (ua (τz 44) 3 0) 6 0) 7 (-1))) (by rw [u2_sA, sA_sA]; first | done | rfl) ?_
  refine hv_aload_n C 0 0 dX5_readText_26 rfl rfl ?_
  refine hv_iconst C dX5_readText_27 ?_
  refine zc_put C K 4 rfl hu_6 tyX5 tyX5_ok nmX5 (by decide) (cv_at 44 rfl) (cv_set 44 4 (-1) rfl) fl_X5_79 rfl rfl (ty := .int) (by decide +kernel) rfl rfl (Nat.le_of_ble_eq_true rfl) dX5_readText_28 ?_
  refine zk_st (τ2 := sA τz 44 (ua (ua (ua (ua (τz 44) 3 0) 4 (-1)) 6 0) 7 (-1))) (by rw [u2_sA, sA_sA]; rw [show (sA τz 44 (ua (ua (ua (τz 44) 3 0) 6 0) 7 (-1))) 44 = (ua (ua (ua (τz 44) 3 0) 6 0) 7 (-1)) from rfl, ua_comm (i := 7) (k := 4) (by decide), ua_comm (i := 6) (k := 4) (by decide)]; first | done | rfl) ?_
  obtain ⟨τy, eτy⟩ : ∃ t9 : Nat → Nat → Int, t9 = sA τz 44 (ua (ua (ua (ua (τz 44) 3 0) 4 (-1)) 6 0) 7 (-1)) := ⟨_, rfl⟩
  refine zk_st (τ2 := τy) eτy.symm ?_
  have Q9 := ri_rx0 (n := n) h2 h6
  have eq9 : τy = rx0 n τ := by rw [eτy, eτz]; rfl
  have Iτy : RI9 n τy := by rw [eq9]; exact Q9.1
  have lτy : τy 44 2 = τ 44 2 := by rw [eq9]; exact Q9.2
  have zy9 := Iτy.1
  refine hv_iconst C dX5_readText_31 ?_
  refine hv_istore_n C 1 [(1, .int (iz 0)), (0, .ref (b + 44))] dX5_readText_32 rfl (by decide) rfl ?_
  have L33 : ∀ (f : Nat) (li9 : Nat) (tb : Nat → Nat → Int), (τ 44 2).toNat + 1 - li9 < f → (RI9 n tb) → (tb 44 2 = τ 44 2) → ((li9 : Int) ≤ τ 44 2 + 1) → (rxE (rxw ((τ 44 2).toNat + 1 - li9) li9 tb) = rxS n τ) → hvV p l e { frames := 5, cells := 4, slots := 292, locals := 113 } s m args below meth c 2 B 4 292 (MQ below (zc_Q D B (fun r' w' n' => r' = none ∧ w' = cv ar b n (rxS n τ) w0 ∧ n' = n + 4)) args s 4 292 B) (zc_I D B (cv ar b n tb w0) (n + 4) s.heap) 33 [(0, .ref (b + 44)), (1, .int (iz ((li9 : Nat) : Int)))] [] := by
    intro f
    induction f with
    | zero => intro _ _ hm; exact absurd hm (Nat.not_lt_zero _)
    | succ f ih33 =>
      intro li9 tb hm33 Itb hl2 hli hrs
      have Jtb := Itb
      have ztb := Itb.t
      unfold tkT tkP at ztb
      obtain ⟨i1tb, i2tb, i3tb, i4tb, i5tb, i6tb, i7tb⟩ := Jtb
      refine hv_iload_n C 1 1 dX5_readText_33 rfl rfl ?_
      refine hv_aload_n C 0 0 dX5_readText_34 rfl rfl ?_
      refine zc_get C K (v := .int (iz (tb 44 2))) 2 rfl hu_6 (by decide) (cv_at 44 rfl) rfl fl_X5_31 rfl dX5_readText_35 ?_
      refine hv_icmp_gt C 89 dX5_readText_38 (by decide) (by omega) (by omega) (fun h38 => ?_) (fun h38 => ?_)
      · skip
        refine hv_aload_n C 0 0 dX5_readText_89 rfl rfl ?_
        refine zc_get C K (v := .int (iz (tb 44 6))) 6 rfl hu_6 (by decide) (cv_at 44 rfl) rfl fl_X5_73 rfl dX5_readText_90 ?_
        refine hv_if_ne C 117 dX5_readText_93 (by decide) (by omega) (fun h93 => ?_) (fun h93 => ?_)
        · skip
          exact zk_vret C hr hlk (by first | (exfalso; omega) | skip; rw [← hrs, rxw_e (f := (τ 44 2).toNat + 1 - li9) (li9 := li9) (τ := tb) (by first | (left; omega) | (right; intro z9; unfold tkT at z9; omega))]; unfold rxE; (first | rw [if_pos (by first | assumption | omega | (unfold tkT; omega))] | rw [if_neg (by first | assumption | omega | (unfold tkT; omega))])) dX5_readText_117
        · skip
          refine hv_aload_n C 0 0 dX5_readText_96 rfl rfl ?_
          refine zc_get C K (v := .int (iz (tb 44 4))) 4 rfl hu_6 (by decide) (cv_at 44 rfl) rfl fl_X5_79 rfl dX5_readText_97 ?_
          refine hv_iconst C dX5_readText_100 ?_
          refine hv_icmp_eq C 117 dX5_readText_101 (by decide) (by omega) (by omega) (fun h101 => ?_) (fun h101 => ?_)
          · skip
            exact zk_vret C hr hlk (by first | (exfalso; omega) | skip; rw [← hrs, rxw_e (f := (τ 44 2).toNat + 1 - li9) (li9 := li9) (τ := tb) (by first | (left; omega) | (right; intro z9; unfold tkT at z9; omega))]; unfold rxE; (first | rw [if_pos (by first | assumption | omega | (unfold tkT; omega))] | rw [if_neg (by first | assumption | omega | (unfold tkT; omega))])) dX5_readText_117
          · skip
            refine hv_aload_n C 0 0 dX5_readText_104 rfl rfl ?_
            refine hv_iconst C dX5_readText_105 ?_
            refine zc_put C K 6 rfl hu_6 tyX5 tyX5_ok nmX5 (by decide) (cv_at 44 rfl) (cv_set 44 6 3 rfl) fl_X5_73 rfl rfl (ty := .int) (by decide +kernel) rfl rfl (Nat.le_of_ble_eq_true rfl) dX5_readText_106 ?_
            refine zk_st (τ2 := sA tb 44 (ua (tb 44) 6 3)) (by rw [u2_sA]; first | done | rfl) ?_
            refine hv_aload_n C 0 0 dX5_readText_109 rfl rfl ?_
            refine hv_aload_n C 0 0 dX5_readText_110 rfl rfl ?_
            refine zc_get C K (v := .int (iz (tb 44 4))) 4 rfl hu_6 (by decide) (cv_at 44 rfl) rfl fl_X5_79 rfl dX5_readText_111 ?_
            refine zc_put C K 7 rfl hu_6 tyX5 tyX5_ok nmX5 (by decide) (cv_at 44 rfl) (cv_set 44 7 (tb 44 4) rfl) fl_X5_76 rfl rfl (ty := .int) (by decide +kernel) rfl rfl (Nat.le_of_ble_eq_true rfl) dX5_readText_114 ?_
            refine zk_st (τ2 := sA tb 44 (ua (ua (tb 44) 6 3) 7 (tb 44 4))) (by rw [u2_sA, sA_sA]; first | done | rfl) ?_
            exact zk_vret C hr hlk (by first | (exfalso; omega) | skip; rw [← hrs, rxw_e (f := (τ 44 2).toNat + 1 - li9) (li9 := li9) (τ := tb) (by first | (left; omega) | (right; intro z9; unfold tkT at z9; omega))]; unfold rxE; (first | rw [if_pos (by first | assumption | omega | (unfold tkT; omega))] | rw [if_neg (by first | assumption | omega | (unfold tkT; omega))])) dX5_readText_117
      · skip
        refine hv_aload_n C 0 0 dX5_readText_41 rfl rfl ?_
        refine zc_get C K (v := .int (iz (tb 44 6))) 6 rfl hu_6 (by decide) (cv_at 44 rfl) rfl fl_X5_73 rfl dX5_readText_42 ?_
        refine hv_if_ne C 89 dX5_readText_45 (by decide) (by omega) (fun h45 => ?_) (fun h45 => ?_)
        · skip
          refine hv_aload_n C 0 0 dX5_readText_89 rfl rfl ?_
          refine zc_get C K (v := .int (iz (tb 44 6))) 6 rfl hu_6 (by decide) (cv_at 44 rfl) rfl fl_X5_73 rfl dX5_readText_90 ?_
          refine hv_if_ne C 117 dX5_readText_93 (by decide) (by omega) (fun h93 => ?_) (fun h93 => ?_)
          · skip
            exact zk_vret C hr hlk (by first | (exfalso; omega) | skip; rw [← hrs, rxw_e (f := (τ 44 2).toNat + 1 - li9) (li9 := li9) (τ := tb) (by first | (left; omega) | (right; intro z9; unfold tkT at z9; omega))]; unfold rxE; (first | rw [if_pos (by first | assumption | omega | (unfold tkT; omega))] | rw [if_neg (by first | assumption | omega | (unfold tkT; omega))])) dX5_readText_117
          · skip
            refine hv_aload_n C 0 0 dX5_readText_96 rfl rfl ?_
            refine zc_get C K (v := .int (iz (tb 44 4))) 4 rfl hu_6 (by decide) (cv_at 44 rfl) rfl fl_X5_79 rfl dX5_readText_97 ?_
            refine hv_iconst C dX5_readText_100 ?_
            refine hv_icmp_eq C 117 dX5_readText_101 (by decide) (by omega) (by omega) (fun h101 => ?_) (fun h101 => ?_)
            · skip
              exact zk_vret C hr hlk (by first | (exfalso; omega) | skip; rw [← hrs, rxw_e (f := (τ 44 2).toNat + 1 - li9) (li9 := li9) (τ := tb) (by first | (left; omega) | (right; intro z9; unfold tkT at z9; omega))]; unfold rxE; (first | rw [if_pos (by first | assumption | omega | (unfold tkT; omega))] | rw [if_neg (by first | assumption | omega | (unfold tkT; omega))])) dX5_readText_117
            · skip
              refine hv_aload_n C 0 0 dX5_readText_104 rfl rfl ?_
              refine hv_iconst C dX5_readText_105 ?_
              refine zc_put C K 6 rfl hu_6 tyX5 tyX5_ok nmX5 (by decide) (cv_at 44 rfl) (cv_set 44 6 3 rfl) fl_X5_73 rfl rfl (ty := .int) (by decide +kernel) rfl rfl (Nat.le_of_ble_eq_true rfl) dX5_readText_106 ?_
              refine zk_st (τ2 := sA tb 44 (ua (tb 44) 6 3)) (by rw [u2_sA]; first | done | rfl) ?_
              refine hv_aload_n C 0 0 dX5_readText_109 rfl rfl ?_
              refine hv_aload_n C 0 0 dX5_readText_110 rfl rfl ?_
              refine zc_get C K (v := .int (iz (tb 44 4))) 4 rfl hu_6 (by decide) (cv_at 44 rfl) rfl fl_X5_79 rfl dX5_readText_111 ?_
              refine zc_put C K 7 rfl hu_6 tyX5 tyX5_ok nmX5 (by decide) (cv_at 44 rfl) (cv_set 44 7 (tb 44 4) rfl) fl_X5_76 rfl rfl (ty := .int) (by decide +kernel) rfl rfl (Nat.le_of_ble_eq_true rfl) dX5_readText_114 ?_
              refine zk_st (τ2 := sA tb 44 (ua (ua (tb 44) 6 3) 7 (tb 44 4))) (by rw [u2_sA, sA_sA]; first | done | rfl) ?_
              exact zk_vret C hr hlk (by first | (exfalso; omega) | skip; rw [← hrs, rxw_e (f := (τ 44 2).toNat + 1 - li9) (li9 := li9) (τ := tb) (by first | (left; omega) | (right; intro z9; unfold tkT at z9; omega))]; unfold rxE; (first | rw [if_pos (by first | assumption | omega | (unfold tkT; omega))] | rw [if_neg (by first | assumption | omega | (unfold tkT; omega))])) dX5_readText_117
        · skip
          refine hv_aload_n C 0 0 dX5_readText_48 rfl rfl ?_
          refine zc_get C K (v := .ref (b + 45)) 0 rfl hu_6 (by decide) (cv_at 44 rfl) rfl fl_X5_9 rfl dX5_readText_49 ?_
          refine hv_aload_n C 0 0 dX5_readText_52 rfl rfl ?_
          refine zc_get C K (v := .int (iz (tb 44 3))) 3 rfl hu_6 (by decide) (cv_at 44 rfl) rfl fl_X5_70 rfl dX5_readText_53 ?_
          refine zc_iald C K (f := (tb 45)) (((tb 44 3) : Int)).toNat (cv_at 45 rfl) (by omega) (by omega) (by decide) dX5_readText_56 ?_
          refine hv_as (tb 45 (((tb 44 3) : Int)).toNat) rfl ?_
          refine hv_if_eq C 89 dX5_readText_57 (by decide) (by omega) (fun h57 => ?_) (fun h57 => ?_)
          · skip
            refine hv_aload_n C 0 0 dX5_readText_89 rfl rfl ?_
            refine zc_get C K (v := .int (iz (tb 44 6))) 6 rfl hu_6 (by decide) (cv_at 44 rfl) rfl fl_X5_73 rfl dX5_readText_90 ?_
            refine hv_if_ne C 117 dX5_readText_93 (by decide) (by omega) (fun h93 => ?_) (fun h93 => ?_)
            · skip
              exact zk_vret C hr hlk (by first | (exfalso; omega) | skip; rw [← hrs, rxw_e (f := (τ 44 2).toNat + 1 - li9) (li9 := li9) (τ := tb) (by first | (left; omega) | (right; intro z9; unfold tkT at z9; omega))]; unfold rxE; (first | rw [if_pos (by first | assumption | omega | (unfold tkT; omega))] | rw [if_neg (by first | assumption | omega | (unfold tkT; omega))])) dX5_readText_117
            · skip
              refine hv_aload_n C 0 0 dX5_readText_96 rfl rfl ?_
              refine zc_get C K (v := .int (iz (tb 44 4))) 4 rfl hu_6 (by decide) (cv_at 44 rfl) rfl fl_X5_79 rfl dX5_readText_97 ?_
              refine hv_iconst C dX5_readText_100 ?_
              refine hv_icmp_eq C 117 dX5_readText_101 (by decide) (by omega) (by omega) (fun h101 => ?_) (fun h101 => ?_)
              · skip
                exact zk_vret C hr hlk (by first | (exfalso; omega) | skip; rw [← hrs, rxw_e (f := (τ 44 2).toNat + 1 - li9) (li9 := li9) (τ := tb) (by first | (left; omega) | (right; intro z9; unfold tkT at z9; omega))]; unfold rxE; (first | rw [if_pos (by first | assumption | omega | (unfold tkT; omega))] | rw [if_neg (by first | assumption | omega | (unfold tkT; omega))])) dX5_readText_117
              · skip
                refine hv_aload_n C 0 0 dX5_readText_104 rfl rfl ?_
                refine hv_iconst C dX5_readText_105 ?_
                refine zc_put C K 6 rfl hu_6 tyX5 tyX5_ok nmX5 (by decide) (cv_at 44 rfl) (cv_set 44 6 3 rfl) fl_X5_73 rfl rfl (ty := .int) (by decide +kernel) rfl rfl (Nat.le_of_ble_eq_true rfl) dX5_readText_106 ?_
                refine zk_st (τ2 := sA tb 44 (ua (tb 44) 6 3)) (by rw [u2_sA]; first | done | rfl) ?_
                refine hv_aload_n C 0 0 dX5_readText_109 rfl rfl ?_
                refine hv_aload_n C 0 0 dX5_readText_110 rfl rfl ?_
                refine zc_get C K (v := .int (iz (tb 44 4))) 4 rfl hu_6 (by decide) (cv_at 44 rfl) rfl fl_X5_79 rfl dX5_readText_111 ?_
                refine zc_put C K 7 rfl hu_6 tyX5 tyX5_ok nmX5 (by decide) (cv_at 44 rfl) (cv_set 44 7 (tb 44 4) rfl) fl_X5_76 rfl rfl (ty := .int) (by decide +kernel) rfl rfl (Nat.le_of_ble_eq_true rfl) dX5_readText_114 ?_
                refine zk_st (τ2 := sA tb 44 (ua (ua (tb 44) 6 3) 7 (tb 44 4))) (by rw [u2_sA, sA_sA]; first | done | rfl) ?_
                exact zk_vret C hr hlk (by first | (exfalso; omega) | skip; rw [← hrs, rxw_e (f := (τ 44 2).toNat + 1 - li9) (li9 := li9) (τ := tb) (by first | (left; omega) | (right; intro z9; unfold tkT at z9; omega))]; unfold rxE; (first | rw [if_pos (by first | assumption | omega | (unfold tkT; omega))] | rw [if_neg (by first | assumption | omega | (unfold tkT; omega))])) dX5_readText_117
          · skip
            refine hv_iload_n C 1 1 dX5_readText_60 rfl rfl ?_
            refine hv_bipush C dX5_readText_61 (by decide) ?_
            refine hv_icmp_lt C 79 dX5_readText_63 (by decide) (by omega) (by omega) (fun h63 => ?_) (fun h63 => ?_)
            · skip
              refine hv_aload_n C 0 0 dX5_readText_79 rfl rfl ?_
              refine zk_callV [] [] C K (cv_at 44 rfl) rfl (k_X5_readLine l  tb  hk Itb) ck_X5_86 (by decide) (by decide) rfl (Nat.le_of_ble_eq_true rfl) dX5_readText_80 ?_
              obtain ⟨τ1, eτ1⟩ : ∃ t9 : Nat → Nat → Int, t9 = rnS tb := ⟨_, rfl⟩
              refine zk_st (τ2 := τ1) eτ1.symm ?_
              have Kτ1 : RK9 n tb τ1 := by rw [eτ1]; exact rk_rnS Itb
              have Iτ1 : RI9 n τ1 := Kτ1.1
              have Jτ1 := Iτ1
              have zτ1 := Iτ1.t
              unfold tkT tkP at zτ1
              obtain ⟨i1τ1, i2τ1, i3τ1, i4τ1, i5τ1, i6τ1, i7τ1⟩ := Jτ1
              have lτ1 := Kτ1.2.1
              refine hv_iinc C 1 1 [(1, .int (iz (((li9 : Nat) : Int) + 1))), (0, .ref (b + 44))] dX5_readText_83 rfl (by decide) rfl ?_
              refine hv_goto C 33 dX5_readText_86 (by decide) ?_
              refine hv_loc [1, 0] [(0, .ref (b + 44)), (1, .int (iz (((li9 : Nat) : Int) + 1)))] rfl ?_
              exact ih33 (li9 + 1) τ1 (by omega) (by assumption) (by omega) (by omega) (by rw [← hrs, rxw_s (f := (τ 44 2).toNat + 1 - li9) (li9 := li9) (τ := tb) (by omega) ⟨by omega, by (unfold tkT; omega)⟩]; first | (rw [if_pos (by omega)]; subst_vars; rfl) | (rw [if_neg (by omega)]; subst_vars; rfl))
            · skip
              refine hv_aload_n C 0 0 dX5_readText_66 rfl rfl ?_
              refine hv_aload_n C 0 0 dX5_readText_67 rfl rfl ?_
              refine zc_get C K (v := .ref (b + 46)) 1 rfl hu_6 (by decide) (cv_at 44 rfl) rfl fl_X5_15 rfl dX5_readText_68 ?_
              refine hv_aload_n C 0 0 dX5_readText_71 rfl rfl ?_
              refine zc_get C K (v := .int (iz (tb 44 3))) 3 rfl hu_6 (by decide) (cv_at 44 rfl) rfl fl_X5_70 rfl dX5_readText_72 ?_
              refine zc_iald C K (f := (tb 46)) (((tb 44 3) : Int)).toNat (cv_at 46 rfl) (by omega) (by omega) (by decide) dX5_readText_75 ?_
              refine hv_as (tb 46 (((tb 44 3) : Int)).toNat) rfl ?_
              refine zk_callV [.int (iz (tb 46 (((tb 44 3) : Int)).toNat))] [] C K (cv_at 44 rfl) rfl (k_X5_oneTooMany l  tb (tb 46 (((tb 44 3) : Int)).toNat) hk Itb (by omega)) ck_X5_82 (by decide) (by decide) rfl (Nat.le_of_ble_eq_true rfl) dX5_readText_76 ?_
              obtain ⟨τ2, eτ2⟩ : ∃ t9 : Nat → Nat → Int, t9 = otm tb (tb 46 (((tb 44 3) : Int)).toNat) := ⟨_, rfl⟩
              refine zk_st (τ2 := τ2) eτ2.symm ?_
              have Kτ2 : RK9 n tb τ2 := by rw [eτ2]; exact rk_otm Itb (by omega)
              have Iτ2 : RI9 n τ2 := Kτ2.1
              have Jτ2 := Iτ2
              have zτ2 := Iτ2.t
              unfold tkT tkP at zτ2
              obtain ⟨i1τ2, i2τ2, i3τ2, i4τ2, i5τ2, i6τ2, i7τ2⟩ := Jτ2
              have lτ2 := Kτ2.2.1
              refine hv_aload_n C 0 0 dX5_readText_79 rfl rfl ?_
              refine zk_callV [] [] C K (cv_at 44 rfl) rfl (k_X5_readLine l  τ2  hk Iτ2) ck_X5_86 (by decide) (by decide) rfl (Nat.le_of_ble_eq_true rfl) dX5_readText_80 ?_
              obtain ⟨τ3, eτ3⟩ : ∃ t9 : Nat → Nat → Int, t9 = rnS τ2 := ⟨_, rfl⟩
              refine zk_st (τ2 := τ3) eτ3.symm ?_
              have Kτ3 : RK9 n τ2 τ3 := by rw [eτ3]; exact rk_rnS Iτ2
              have Iτ3 : RI9 n τ3 := Kτ3.1
              have Jτ3 := Iτ3
              have zτ3 := Iτ3.t
              unfold tkT tkP at zτ3
              obtain ⟨i1τ3, i2τ3, i3τ3, i4τ3, i5τ3, i6τ3, i7τ3⟩ := Jτ3
              have lτ3 := Kτ3.2.1
              refine hv_iinc C 1 1 [(1, .int (iz (((li9 : Nat) : Int) + 1))), (0, .ref (b + 44))] dX5_readText_83 rfl (by decide) rfl ?_
              refine hv_goto C 33 dX5_readText_86 (by decide) ?_
              refine hv_loc [1, 0] [(0, .ref (b + 44)), (1, .int (iz (((li9 : Nat) : Int) + 1)))] rfl ?_
              exact ih33 (li9 + 1) τ3 (by omega) (by assumption) (by omega) (by omega) (by rw [← hrs, rxw_s (f := (τ 44 2).toNat + 1 - li9) (li9 := li9) (τ := tb) (by omega) ⟨by omega, by (unfold tkT; omega)⟩]; first | (rw [if_pos (by omega)]; subst_vars; rfl) | (rw [if_neg (by omega)]; subst_vars; rfl))
  refine hv_loc [1, 0] [(0, .ref (b + 44)), (1, .int (iz 0))] rfl ?_
  exact L33 _ 0 τy (Nat.lt_succ_self _) (by assumption) (by omega) (by omega) (by subst_vars; rfl)
