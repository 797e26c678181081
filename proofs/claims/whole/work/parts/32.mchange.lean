def plS (σ : Nat → Nat → Int) (d t : Int) : Nat → Nat → Int := sA (sA (sA (sA (sA (sA (sA (sA σ 0 (ua (ua (σ 0) 17 (pgu (pgE σ d t) (pgS σ d t).1 288)) 18 (pgf (pgE σ d t) (pgS σ d t).1 288))) 5 (pgS σ d t).1) 6 (pgS σ d t).2) 7 (ms (σ 1) (pgL σ d t) (σ 1 1).toNat)) 8 (pgE σ d t)) 9 (pgW (pgE σ d t) (pgS σ d t).1 (σ 9) 288)) 10 (pgB (pgE σ d t) (pgS σ d t).1 (σ 10) 288)) 14 (pgY (pgE σ d t) (pgS σ d t).1 (zt (σ 14) 12) 288)
def lsR (σ : Nat → Nat → Int) : Int := if σ 0 17 + σ 0 18 > 7 then -1 else (ls9 (σ 1) (σ 14) (σ 9) (σ 10) (σ 0 17 + σ 0 18).toNat ((σ 1 13).toNat - 1) lF9 (-1) (id9 (σ 11) 7) (σ 12) (σ 13)).1
def lsS (σ : Nat → Nat → Int) : Nat → Nat → Int := if σ 0 17 + σ 0 18 > 7 then σ else sA (sA (sA σ 11 (ls9 (σ 1) (σ 14) (σ 9) (σ 10) (σ 0 17 + σ 0 18).toNat ((σ 1 13).toNat - 1) lF9 (-1) (id9 (σ 11) 7) (σ 12) (σ 13)).2.1) 12 (ls9 (σ 1) (σ 14) (σ 9) (σ 10) (σ 0 17 + σ 0 18).toNat ((σ 1 13).toNat - 1) lF9 (-1) (id9 (σ 11) 7) (σ 12) (σ 13)).2.2.1) 13 (ls9 (σ 1) (σ 14) (σ 9) (σ 10) (σ 0 17 + σ 0 18).toNat ((σ 1 13).toNat - 1) lF9 (-1) (id9 (σ 11) 7) (σ 12) (σ 13)).2.2.2
theorem pgW_r {E S W : Nat → Int} (h : ∀ j, j < 7 → 0 ≤ W j ∧ W j ≤ 11) : ∀ k j, j < 7 → 0 ≤ pgW E S W k j ∧ pgW E S W k j ≤ 11
  | 0, j, hj => h j hj
  | k + 1, j, hj => by
    have a := pgW_r (E := E) (S := S) h k j hj
    unfold pgW
    split
    · unfold ua
      split
      · omega
      · exact a
    · exact a
theorem pgY_r {E S Y : Nat → Int} (h : ∀ j, j < 12 → Y j = 0) : ∀ k j, j < 12 → 0 ≤ pgY E S Y k j ∧ pgY E S Y k j ≤ (((k + 11 - j) / 12 : Nat) : Int)
  | 0, j, hj => by
    show 0 ≤ Y j ∧ Y j ≤ _
    rw [h j hj]; omega
  | k + 1, j, hj => by
    have a := pgY_r (E := E) (S := S) h k j hj
    unfold pgY
    split
    · unfold ua
      split
      · next e => subst e; omega
      · omega
    · omega
theorem pgY_in {E S Y : Nat → Int} (h : ∀ j, j < 12 → Y j = 0) (g : ∀ j, inI (Y j)) : ∀ k, k ≤ 288 → ∀ j, inI (pgY E S Y k j)
  | 0, _, j => g j
  | k + 1, hk, j => by
    have a := pgY_in (E := E) (S := S) h g k (by omega) j
    have b := pgY_r (E := E) (S := S) h k (k % 12) (by omega)
    unfold pgY
    split
    · unfold ua
      split
      · exact ⟨by omega, by omega⟩
      · exact a
    · exact a
theorem pgW_in {E S W : Nat → Int} (g : ∀ j, inI (W j)) : ∀ k j, inI (pgW E S W k j)
  | 0, j => g j
  | k + 1, j => by
    have a := pgW_in (E := E) (S := S) g k j
    unfold pgW
    split
    · unfold ua
      split
      · exact ⟨by omega, by omega⟩
      · exact a
    · exact a
theorem pgB_in {E S B : Nat → Int} (g : ∀ j, inI (B j)) : ∀ k j, inI (pgB E S B k j)
  | 0, j => g j
  | k + 1, j => by
    have a := pgB_in (E := E) (S := S) g k j
    unfold pgB
    split
    · unfold ua
      split
      · split <;> decide
      · exact a
    · exact a
theorem pgL_z {σ : Nat → Nat → Int} (hσ : rg σ) (hc : cn (σ 1)) (hw : wi (σ 1)) (h0 : σ 7 0 = 0) (d t : Int) : (∀ i, inI (pgL σ d t i)) ∧ pgL σ d t 0 = 0 := by
  unfold pgL
  split
  · exact ms_in (L := σ 7) hc hw (fun i => hσ 7 i) h0
  · exact ⟨fun i => hσ 7 i, h0⟩
theorem pgQ_in {σ : Nat → Nat → Int} (hσ : rg σ) (hc : cn (σ 1)) (d t : Int) : (∀ i, inI ((pgQ σ d t).1 i)) ∧ ∀ i, inI ((pgQ σ d t).2 i) := by
  unfold pgQ
  split
  · exact sgr_in hc _ _ _ (fun i => hσ 6 i) (fun i => hσ 5 i)
  · exact ⟨fun i => hσ 5 i, fun i => hσ 6 i⟩
theorem pgE_in {σ : Nat → Nat → Int} (hσ : rg σ) (hc : cn (σ 1)) (d t : Int) : ∀ i, inI (pgE σ d t i) := by
  unfold pgE
  split
  · exact ah9_in (zt_in (fun i => hσ 8 i) _) (sgr_in hc _ _ _ (fun i => hσ 6 i) (fun i => hσ 5 i)).1 _
  · exact zt_in (fun i => hσ 8 i) _
theorem plS_rg {σ : Nat → Nat → Int} (hσ : rg σ) (hc : cn (σ 1)) (hw : wi (σ 1)) (h0 : σ 7 0 = 0) (d t : Int) : rg (plS σ d t) := by
  have q := pgQ_in hσ hc d t
  have s := sgr_in (A := σ 1) hc (L := pgL σ d t) (K := (pgQ σ d t).2) (S := (pgQ σ d t).1) d t 23 q.2 q.1
  have u := pgu_r (pgE σ d t) (pgS σ d t).1 288
  have l := pgL_z hσ hc hw h0 d t
  unfold plS
  exact rg_sA (rg_sA (rg_sA (rg_sA (rg_sA (rg_sA (rg_sA (rg_sA hσ (in_ua (in_ua (fun i => hσ 0 i) ⟨by omega, by omega⟩) ⟨by omega, by omega⟩)) s.1) s.2) (ms_in hc hw l.1 l.2).1) (pgE_in hσ hc d t)) (pgW_in (fun i => hσ 9 i) _)) (pgB_in (fun i => hσ 10 i) _)) (pgY_in (fun j q => zt_0 _ _ _ q) (zt_in (fun i => hσ 14 i) _) 288 (by decide))

theorem dX12_change_0 : decode cX12_change 0 = .ok (.iload_n 1, 1) := by decide +kernel
theorem dX12_change_1 : decode cX12_change 1 = .ok (.invokestatic 75, 3) := by decide +kernel
theorem dX12_change_4 : decode cX12_change 4 = .ok (.ifCond .eq 19, 3) := by decide +kernel
theorem dX12_change_7 : decode cX12_change 7 = .ok (.iload_n 2, 1) := by decide +kernel
theorem dX12_change_8 : decode cX12_change 8 = .ok (.invokestatic 81, 3) := by decide +kernel
theorem dX12_change_11 : decode cX12_change 11 = .ok (.ifCond .eq 12, 3) := by decide +kernel
theorem dX12_change_14 : decode cX12_change 14 = .ok (.iload_n 3, 1) := by decide +kernel
theorem dX12_change_15 : decode cX12_change 15 = .ok (.iconst 0, 1) := by decide +kernel
theorem dX12_change_16 : decode cX12_change 16 = .ok (.iconst 2, 1) := by decide +kernel
theorem dX12_change_17 : decode cX12_change 17 = .ok (.invokestatic 59, 3) := by decide +kernel
theorem dX12_change_20 : decode cX12_change 20 = .ok (.ifCond .ne 5, 3) := by decide +kernel
theorem dX12_change_23 : decode cX12_change 23 = .ok (.iconst (-1), 1) := by decide +kernel
theorem dX12_change_24 : decode cX12_change 24 = .ok (.ireturn, 1) := by decide +kernel
theorem dX12_change_25 : decode cX12_change 25 = .ok (.aload_n 0, 1) := by decide +kernel
theorem dX12_change_26 : decode cX12_change 26 = .ok (.iload_n 1, 1) := by decide +kernel
theorem dX12_change_27 : decode cX12_change 27 = .ok (.iload_n 2, 1) := by decide +kernel
theorem dX12_change_28 : decode cX12_change 28 = .ok (.invokevirtual 277, 3) := by decide +kernel
theorem dX12_change_31 : decode cX12_change 31 = .ok (.iload_n 3, 1) := by decide +kernel
theorem dX12_change_32 : decode cX12_change 32 = .ok (.ifCond .ne 10, 3) := by decide +kernel
theorem dX12_change_35 : decode cX12_change 35 = .ok (.aload_n 0, 1) := by decide +kernel
theorem dX12_change_36 : decode cX12_change 36 = .ok (.getfield 259, 3) := by decide +kernel
theorem dX12_change_39 : decode cX12_change 39 = .ok (.goto 19, 3) := by decide +kernel
theorem dX12_change_42 : decode cX12_change 42 = .ok (.iload_n 3, 1) := by decide +kernel
theorem dX12_change_43 : decode cX12_change 43 = .ok (.iconst 1, 1) := by decide +kernel
theorem dX12_change_44 : decode cX12_change 44 = .ok (.if_icmp .ne 10, 3) := by decide +kernel
theorem dX12_change_47 : decode cX12_change 47 = .ok (.aload_n 0, 1) := by decide +kernel
theorem dX12_change_48 : decode cX12_change 48 = .ok (.getfield 262, 3) := by decide +kernel
theorem dX12_change_51 : decode cX12_change 51 = .ok (.goto 7, 3) := by decide +kernel
theorem dX12_change_54 : decode cX12_change 54 = .ok (.aload_n 0, 1) := by decide +kernel
theorem dX12_change_55 : decode cX12_change 55 = .ok (.invokevirtual 280, 3) := by decide +kernel
theorem dX12_change_58 : decode cX12_change 58 = .ok (.ireturn, 1) := by decide +kernel
set_option maxRecDepth 100000 in
set_option maxHeartbeats 4000000 in
theorem k_change (l : Launch) {D : va_G} {cI cZ : ClassId} {a0 : Nat} (σ : Nat → Nat → Int) (d : Int) (t : Int) (what : Int) (hσ : rg σ) (hc : cn (σ 1)) (hs : si (σ 1)) (hh : hi (σ 1)) (hl : li (σ 1)) (hwi : wi (σ 1)) (h70 : σ 7 0 = 0) (hW0 : ∀ j, j < 7 → 0 ≤ σ 9 j ∧ σ 9 j ≤ 11) (r_d : inI d) (r_t : inI t) (r_what : inI what) : moM l D cI cZ a0 yX12_change cX12_change 4 (some .int) 11 281 [.ref a0, .int (iz d), .int (iz t), .int (iz what)] σ (some (.int (iz (if (0 ≤ d ∧ d ≤ 199) ∧ (0 ≤ t ∧ t ≤ 47) ∧ (0 ≤ what ∧ what ≤ 2) then (if what = 0 then plS σ d t 0 17 else if what = 1 then plS σ d t 0 18 else lsR (plS σ d t)) else -1)))) (if (0 ≤ d ∧ d ≤ 199) ∧ (0 ≤ t ∧ t ≤ 47) ∧ (0 ≤ what ∧ what ≤ 2) then (if what = 2 then lsS (plS σ d t) else plS σ d t) else σ) := by
  refine mo_start (by decide) rfl (Nat.le_of_ble_eq_true rfl) ?_
  intro p e s m args below meth c C K hr hlk
  refine hv_iload_n C 1 1 dX12_change_0 rfl rfl ?_
  refine mo_callS [.int (iz d)] [] C K (k_isDay l σ d (by omega)) ck_isDay (by decide) rfl (Nat.le_of_ble_eq_true rfl) dX12_change_1 ?_
  refine hv_dif_eq C 23 dX12_change_4 (by decide)  (fun h4 => ?_) (fun h4 => ?_)
  · skip
    refine hv_iconst C dX12_change_23 ?_
    exact mo_iret (Qc := fun _ _ _ _ => True) C hr hlk (by first | exact if_n (by omega) rfl | (refine if_p (by omega) ?_; first | exact if_p (by omega) rfl | (refine if_n (by omega) ?_; first | exact if_p (by omega) rfl | exact if_n (by omega) rfl))) (by first | exact if_n (by omega) rfl | (refine if_p (by omega) ?_; first | exact if_p (by omega) rfl | exact if_n (by omega) rfl)) dX12_change_24
  · skip
    refine hv_iload_n C 2 2 dX12_change_7 rfl rfl ?_
    refine mo_callS [.int (iz t)] [] C K (k_isSlot l σ t (by omega)) ck_isSlot (by decide) rfl (Nat.le_of_ble_eq_true rfl) dX12_change_8 ?_
    refine hv_dif_eq C 23 dX12_change_11 (by decide)  (fun h11 => ?_) (fun h11 => ?_)
    · skip
      refine hv_iconst C dX12_change_23 ?_
      exact mo_iret (Qc := fun _ _ _ _ => True) C hr hlk (by first | exact if_n (by omega) rfl | (refine if_p (by omega) ?_; first | exact if_p (by omega) rfl | (refine if_n (by omega) ?_; first | exact if_p (by omega) rfl | exact if_n (by omega) rfl))) (by first | exact if_n (by omega) rfl | (refine if_p (by omega) ?_; first | exact if_p (by omega) rfl | exact if_n (by omega) rfl)) dX12_change_24
    · skip
      refine hv_iload_n C 3 3 dX12_change_14 rfl rfl ?_
      refine hv_iconst C dX12_change_15 ?_
      refine hv_iconst C dX12_change_16 ?_
      refine mo_callS [.int (iz what), .int (iz 0), .int (iz 2)] [] C K (k_isIn l σ what 0 2 (by omega) (by omega) (by omega)) ck_isIn (by decide) rfl (Nat.le_of_ble_eq_true rfl) dX12_change_17 ?_
      refine hv_dif_ne C 25 dX12_change_20 (by decide)  (fun h20 => ?_) (fun h20 => ?_)
      · skip
        refine hv_aload_n C 0 0 dX12_change_25 rfl rfl ?_
        refine hv_iload_n C 1 1 dX12_change_26 rfl rfl ?_
        refine hv_iload_n C 2 2 dX12_change_27 rfl rfl ?_
        refine mo_call [.int (iz d), .int (iz t)] [] C K (k_plugs l σ d t hσ (by omega) hs hh hl hwi (by omega) (by omega) (by omega)) ck_plugs (by decide) rfl (Nat.le_of_ble_eq_true rfl) dX12_change_28 ?_
        refine hv_iload_n C 3 3 dX12_change_31 rfl rfl ?_
        refine hv_if_ne C 42 dX12_change_32 (by decide) (by omega) (fun h32 => ?_) (fun h32 => ?_)
        · skip
          refine hv_iload_n C 3 3 dX12_change_42 rfl rfl ?_
          refine hv_iconst C dX12_change_43 ?_
          refine hv_icmp_ne C 54 dX12_change_44 (by decide) (by omega) (by omega) (fun h44 => ?_) (fun h44 => ?_)
          · skip
            have zr9 := plS_rg hσ hc hwi h70 d t
            have zu9 := pgu_r (pgE σ d t) (pgS σ d t).1 288
            refine hv_aload_n C 0 0 dX12_change_54 rfl rfl ?_
            refine mo_call [] [] C K (k_leastSeconds l (plS σ d t)  zr9 (show 1 ≤ σ 1 13 ∧ σ 1 13 ≤ 3 by omega) (show ∀ j, j < 7 → 0 ≤ pgW _ _ (σ 9) 288 j ∧ pgW _ _ (σ 9) 288 j ≤ 11 from pgW_r hW0 288) (show ∀ j, j < 12 → 0 ≤ pgY (pgE σ d t) (pgS σ d t).1 (zt (σ 14) 12) 288 j ∧ pgY (pgE σ d t) (pgS σ d t).1 (zt (σ 14) 12) 288 j ≤ 24 from fun j zj => by have z := pgY_r (E := pgE σ d t) (S := (pgS σ d t).1) (Y := zt (σ 14) 12) (fun q z => zt_0 _ _ _ z) 288 j zj; omega) (show 0 ≤ pgu (pgE σ d t) (pgS σ d t).1 288 ∧ 0 ≤ pgf (pgE σ d t) (pgS σ d t).1 288 ∧ pgu (pgE σ d t) (pgS σ d t).1 288 + pgf (pgE σ d t) (pgS σ d t).1 288 ≤ 1000 by omega)) ck_leastSeconds (by decide) rfl (Nat.le_of_ble_eq_true rfl) dX12_change_55 ?_
            exact mo_iret (Qc := fun _ _ _ _ => True) C hr hlk (by first | exact if_n (by omega) rfl | (refine if_p (by omega) ?_; first | exact if_p (by omega) rfl | (refine if_n (by omega) ?_; first | exact if_p (by omega) rfl | exact if_n (by omega) rfl))) (by first | exact if_n (by omega) rfl | (refine if_p (by omega) ?_; first | exact if_p (by omega) rfl | exact if_n (by omega) rfl)) dX12_change_58
          · skip
            refine hv_aload_n C 0 0 dX12_change_47 rfl rfl ?_
            refine mo_geti C K (x := (plS σ d t) 0 18) 18 (by decide) rfl mo_hw fl_262 rfl dX12_change_48 ?_
            refine hv_goto C 58 dX12_change_51 (by decide) ?_
            exact mo_iret (Qc := fun _ _ _ _ => True) C hr hlk (by first | exact if_n (by omega) rfl | (refine if_p (by omega) ?_; first | exact if_p (by omega) rfl | (refine if_n (by omega) ?_; first | exact if_p (by omega) rfl | exact if_n (by omega) rfl))) (by first | exact if_n (by omega) rfl | (refine if_p (by omega) ?_; first | exact if_p (by omega) rfl | exact if_n (by omega) rfl)) dX12_change_58
        · skip
          refine hv_aload_n C 0 0 dX12_change_35 rfl rfl ?_
          refine mo_geti C K (x := (plS σ d t) 0 17) 17 (by decide) rfl mo_hw fl_259 rfl dX12_change_36 ?_
          refine hv_goto C 58 dX12_change_39 (by decide) ?_
          exact mo_iret (Qc := fun _ _ _ _ => True) C hr hlk (by first | exact if_n (by omega) rfl | (refine if_p (by omega) ?_; first | exact if_p (by omega) rfl | (refine if_n (by omega) ?_; first | exact if_p (by omega) rfl | exact if_n (by omega) rfl))) (by first | exact if_n (by omega) rfl | (refine if_p (by omega) ?_; first | exact if_p (by omega) rfl | exact if_n (by omega) rfl)) dX12_change_58
      · skip
        refine hv_iconst C dX12_change_23 ?_
        exact mo_iret (Qc := fun _ _ _ _ => True) C hr hlk (by first | exact if_n (by omega) rfl | (refine if_p (by omega) ?_; first | exact if_p (by omega) rfl | (refine if_n (by omega) ?_; first | exact if_p (by omega) rfl | exact if_n (by omega) rfl))) (by first | exact if_n (by omega) rfl | (refine if_p (by omega) ?_; first | exact if_p (by omega) rfl | exact if_n (by omega) rfl)) dX12_change_24
