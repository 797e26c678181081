theorem lyH_r {A E O : Nat → Int} (hwi : wi A) (h12 : 0 ≤ A 1 ∧ A 1 ≤ 12) (hO : ∀ i : Nat, (i : Int) < A 1 → 0 ≤ O i ∧ O i < A 1) (pl : Int) (S0 K0 P0 : Nat → Int) (hS : ∀ i, i < 24 → -1 ≤ S0 i ∧ S0 i ≤ 4095) : ∀ h i : Nat, i < 24 → -1 ≤ (lyH A E O pl S0 K0 P0 h).1 i ∧ (lyH A E O pl S0 K0 P0 h).1 i ≤ 4095
  | 0, i, g => hS i g
  | h + 1, i, g => by
    have a := lyH_r (E := E) hwi h12 hO pl S0 K0 P0 hS h i g
    unfold lyH
    split
    · show -1 ≤ ua _ h _ i ∧ ua _ h _ i ≤ 4095
      unfold ua
      split
      · exact wqN_r hwi h12 hO _ _
      · exact a
    · exact a
theorem lyS_r {A : Nat → Int} (hwi : wi A) (hc : cn A) (pl : Int) (S E K O P : Nat → Int) : ∀ i, i < 24 → -1 ≤ lyS A pl S E K O P i ∧ lyS A pl S E K O P i ≤ 4095 := by
  intro i g
  have z : ∀ i, i < 24 → -1 ≤ mz S 24 i ∧ mz S 24 i ≤ 4095 := fun i q => by rw [mz_1 S 24 i q]; omega
  unfold lyS
  split
  · exact lyH_r hwi (by omega) (fun i q => by have z2 := ow9_g (A := A) (O := O) (A 1).toNat i (by omega); omega) pl _ _ _ z _ i g
  · exact z i g

theorem dX11_string_0 : decode cX11_string 0 = .ok (.aload_n 0, 1) := by decide +kernel
theorem dX11_string_1 : decode cX11_string 1 = .ok (.iload_n 1, 1) := by decide +kernel
theorem dX11_string_2 : decode cX11_string 2 = .ok (.iload_n 2, 1) := by decide +kernel
theorem dX11_string_3 : decode cX11_string 3 = .ok (.invokevirtual 209, 3) := by decide +kernel
theorem dX11_string_6 : decode cX11_string 6 = .ok (.ifCond .ne 5, 3) := by decide +kernel
theorem dX11_string_9 : decode cX11_string 9 = .ok (.iconst (-1), 1) := by decide +kernel
theorem dX11_string_10 : decode cX11_string 10 = .ok (.ireturn, 1) := by decide +kernel
theorem dX11_string_11 : decode cX11_string 11 = .ok (.aload_n 0, 1) := by decide +kernel
theorem dX11_string_12 : decode cX11_string 12 = .ok (.getfield 23, 3) := by decide +kernel
theorem dX11_string_15 : decode cX11_string 15 = .ok (.aload_n 0, 1) := by decide +kernel
theorem dX11_string_16 : decode cX11_string 16 = .ok (.getfield 10, 3) := by decide +kernel
theorem dX11_string_19 : decode cX11_string 19 = .ok (.aload_n 0, 1) := by decide +kernel
theorem dX11_string_20 : decode cX11_string 20 = .ok (.getfield 10, 3) := by decide +kernel
theorem dX11_string_23 : decode cX11_string 23 = .ok (.getfield 124, 3) := by decide +kernel
theorem dX11_string_26 : decode cX11_string 26 = .ok (.iload_n 1, 1) := by decide +kernel
theorem dX11_string_27 : decode cX11_string 27 = .ok (.invokevirtual 146, 3) := by decide +kernel
theorem dX11_string_30 : decode cX11_string 30 = .ok (.checkcast 130, 3) := by decide +kernel
theorem dX11_string_33 : decode cX11_string 33 = .ok (.getfield 153, 3) := by decide +kernel
theorem dX11_string_36 : decode cX11_string 36 = .ok (.iload_n 2, 1) := by decide +kernel
theorem dX11_string_37 : decode cX11_string 37 = .ok (.iadd, 1) := by decide +kernel
theorem dX11_string_38 : decode cX11_string 38 = .ok (.invokevirtual 223, 3) := by decide +kernel
theorem dX11_string_41 : decode cX11_string 41 = .ok (.aload_n 0, 1) := by decide +kernel
theorem dX11_string_42 : decode cX11_string 42 = .ok (.getfield 23, 3) := by decide +kernel
theorem dX11_string_45 : decode cX11_string 45 = .ok (.getfield 231, 3) := by decide +kernel
theorem dX11_string_48 : decode cX11_string 48 = .ok (.iload_n 1, 1) := by decide +kernel
theorem dX11_string_49 : decode cX11_string 49 = .ok (.iaload, 1) := by decide +kernel
theorem dX11_string_50 : decode cX11_string 50 = .ok (.ireturn, 1) := by decide +kernel
theorem fl_X11_23 : Cond.fieldLink RX11 23 "HookUps" (TX11 2).2.1 (TX11 2).2.2.1 ∈ hk_tb := hk_tq2 74 (by decide +kernel) (by decide +kernel)
theorem ck_X11_223 : zcV RX11 RX10 yX10_lay cX10_lay 5 none 223 2 := ⟨hk_tq4 146 (by decide +kernel) (by decide +kernel), hk_tq4 143 (by decide +kernel) (by decide +kernel), hk_tq1 8 (by decide +kernel) (by decide +kernel), ⟨by decide, by decide, by decide +kernel⟩, hk_tq4 144 (by decide +kernel) (by decide +kernel), hk_tq4 145 (by decide +kernel) (by decide +kernel)⟩
theorem fl_X11_231 : Cond.fieldLink RX11 231 "HookUps$Wiring" (TX10 0).2.1 (TX10 0).2.2.1 ∈ hk_tb := hk_tq1 215 (by decide +kernel) (by decide +kernel)
set_option maxRecDepth 100000 in
set_option maxHeartbeats 4000000 in
theorem k_X11_string (l : Launch) {D : va_G} {ar : Nat → ClassId} {B : Nat → Prop} {b n : Nat} {w0 : zcW} (A : Nat → Int) (τ : Nat → Nat → Int) (h : Int) (i : Int) (hA : ∀ i, inI (A i)) (hR : Rel9 ar b w0 A τ) (hs : si A) (hh : hi A) (hl : li A) (hlj : lj9 A) (hc : cn A) (hm : mI A) (hb : bI A) (hwi : wi A) (r_h : inI h) (r_i : inI i) : zs_M l D ar B b w0 n yX11_string cX11_string 3 (some .int) 7 176 [.ref b, .int (iz h), .int (iz i)] τ (some (.int (iz (if ((0 ≤ h ∧ h ≤ A 4 - 1) ∧ (A 9 = -1 ∨ A ((280 + (8 * h.toNat)) + 7) ≤ A 9)) ∧ (0 ≤ i ∧ i ≤ A ((280 + (8 * h.toNat)) + 3) - 1) then (lyS A (48 * A (280 + 8 * h.toNat + 1) + A (280 + 8 * h.toNat + 2) + i) (τ 25) (τ 26) (τ 27) (τ 28) (τ 29) h.toNat) else -1)))) (fun (X : Nat → Nat → Int) => sA (sA (sA (sA (sA (sA τ 18 (X 18)) 25 (X 25)) 26 (X 26)) 27 (X 27)) 28 (X 28)) 29 (X 29)) := by
  refine zc_start (own := RX11) (by decide +kernel) rfl (Nat.le_of_ble_eq_true rfl) ?_
  intro p e s m args below meth c C K hr hlk hnam
  have n7 := hR.l7.1
  refine hv_aload_n C 0 0 dX11_string_0 rfl rfl ?_
  refine hv_iload_n C 1 1 dX11_string_1 rfl rfl ?_
  refine hv_iload_n C 2 2 dX11_string_2 rfl rfl ?_
  refine zt_callV [.int (iz h), .int (iz i)] [] C K cw_0 rfl (k_X11_isSeenSlot l A τ h i hA hR hh hc (by omega) (by omega)) ck_X11_209 (by decide) ⟨Nat.zero_le _, Nat.zero_le _⟩ rfl (Nat.le_of_ble_eq_true rfl) dX11_string_3 ?_
  refine hv_as (xb (decide (((0 ≤ h ∧ h ≤ A 4 - 1) ∧ (A 9 = -1 ∨ A ((280 + (8 * h.toNat)) + 7) ≤ A 9)) ∧ (0 ≤ i ∧ i ≤ A ((280 + (8 * h.toNat)) + 3) - 1)))) rfl ?_
  refine hv_dif_ne C 11 dX11_string_6 (by decide)  (fun h6 => ?_) (fun h6 => ?_)
  · skip
    obtain ⟨hn, rfl⟩ : ∃ n9 : Nat, h = (n9 : Int) := ⟨(h).toNat, by omega⟩
    (try simp only [Int.toNat_natCast] at *)
    have hhk := hh hn (by omega)
    refine hv_aload_n C 0 0 dX11_string_11 rfl rfl ?_
    refine zc_get C K (v := .ref (b + 24)) 2 rfl hu_12 (by decide) cw_0 rfl fl_X11_23 rfl dX11_string_12 ?_
    refine hv_aload_n C 0 0 dX11_string_15 rfl rfl ?_
    refine zc_get C K (v := .ref (b + 1)) 0 rfl hu_12 (by decide) cw_0 rfl fl_X11_10 rfl dX11_string_16 ?_
    refine hv_aload_n C 0 0 dX11_string_19 rfl rfl ?_
    refine zc_get C K (v := .ref (b + 1)) 0 rfl hu_12 (by decide) cw_0 rfl fl_X11_10 rfl dX11_string_20 ?_
    refine zc_get C K (v := .ref (b + 7)) 6 rfl hu_9 (by decide) (cw_at 1 rfl) rfl fl_X11_124 rfl dX11_string_23 ?_
    refine hv_iload_n C 1 1 dX11_string_26 rfl rfl ?_
    obtain ⟨p1, i1, o1⟩ := (hR : Rel9 ar b w0 A τ).l7.2 hn (by omega)
    refine zt_callV [.int (iz ((hn : Nat) : Int))] [.ref (b + 1), .ref (b + 24)] C K (cw_at 7 rfl) rfl (k_Jx4a65c_get_915e3 l 7 p1 τ hn rfl i1) ck_X11_146 (by decide) ⟨Nat.zero_le _, Nat.zero_le _⟩ rfl (Nat.le_of_ble_eq_true rfl) dX11_string_27 ?_
    refine zc_cast C K (cw_ob o1) (hc := rfl) cl_X11_130 dX11_string_30 ?_
    refine zc_get C K (v := .int (iz ((48 * (A (280 + 8 * hn + 1))) + (A (280 + 8 * hn + 2))))) 1 rfl hu_4 (by decide) (cw_ob o1) rfl fl_X11_153 rfl dX11_string_33 ?_
    refine hv_iload_n C 2 2 dX11_string_36 rfl rfl ?_
    refine hv_iadd C dX11_string_37 ?_
    refine zs_callV [.ref (b + 1), .int (iz (((48 * (A (280 + 8 * hn + 1))) + (A (280 + 8 * hn + 2))) + i))] [] C K (cw_at 24 rfl) rfl (k_X10_lay_wa l A τ (((48 * (A (280 + 8 * hn + 1))) + (A (280 + 8 * hn + 2))) + i) hA hR hs hh hl hlj hc hm hb hwi (by omega)) ck_X11_223 (by decide) ⟨Nat.zero_le _, Nat.zero_le _⟩ rfl (Nat.le_of_ble_eq_true rfl) dX11_string_38 (fun X2 => ?_)
    refine hv_aload_n C 0 0 dX11_string_41 rfl rfl ?_
    refine zc_get C K (v := .ref (b + 24)) 2 rfl hu_12 (by decide) cw_0 rfl fl_X11_23 rfl dX11_string_42 ?_
    refine zc_get C K (v := .ref (b + 25)) 0 rfl hu_11 (by decide) (cw_at 24 rfl) rfl fl_X11_231 rfl dX11_string_45 ?_
    refine hv_iload_n C 1 1 dX11_string_48 rfl rfl ?_
    refine zc_iald C K (f := (lyS A (((48 * (A (280 + 8 * hn + 1))) + (A (280 + 8 * hn + 2))) + i) (τ 25) (τ 26) (τ 27) (τ 28) (τ 29))) hn (cw_at 25 rfl) (by omega) (by omega) (by decide) dX11_string_49 ?_
    exact zs_iret C hr hlk (by (try simp only [Int.toNat_natCast] at *); first | exact if_n (by omega) rfl | exact if_p (by omega) rfl) ⟨(sA (sA (sA (sA (sA (sA τ 18 (X2 18)) 25 (lyS A (((48 * (A (280 + 8 * hn + 1))) + (A (280 + 8 * hn + 2))) + i) (τ 25) (τ 26) (τ 27) (τ 28) (τ 29))) 26 (X2 26)) 27 (X2 27)) 28 (X2 28)) 29 (X2 29)), by first | rfl | (funext j9; by_cases hj18 : j9 = 18; (subst hj18; rfl); by_cases hj25 : j9 = 25; (subst hj25; rfl); by_cases hj26 : j9 = 26; (subst hj26; rfl); by_cases hj27 : j9 = 27; (subst hj27; rfl); by_cases hj28 : j9 = 28; (subst hj28; rfl); by_cases hj29 : j9 = 29; (subst hj29; rfl); simp only [sA, if_neg hj18, if_neg hj25, if_neg hj26, if_neg hj27, if_neg hj28, if_neg hj29])⟩ dX11_string_50
  · skip
    refine hv_iconst C dX11_string_9 ?_
    exact zs_iret C hr hlk (by (try simp only [Int.toNat_natCast] at *); first | exact if_n (by omega) rfl | exact if_p (by omega) rfl) ⟨τ, by first | rfl | (funext j9; by_cases hj18 : j9 = 18; (subst hj18; rfl); by_cases hj25 : j9 = 25; (subst hj25; rfl); by_cases hj26 : j9 = 26; (subst hj26; rfl); by_cases hj27 : j9 = 27; (subst hj27; rfl); by_cases hj28 : j9 = 28; (subst hj28; rfl); by_cases hj29 : j9 = 29; (subst hj29; rfl); simp only [sA, if_neg hj18, if_neg hj25, if_neg hj26, if_neg hj27, if_neg hj28, if_neg hj29])⟩ dX11_string_10
theorem dX11_miles_0 : decode cX11_miles 0 = .ok (.aload_n 0, 1) := by decide +kernel
theorem dX11_miles_1 : decode cX11_miles 1 = .ok (.iload_n 1, 1) := by decide +kernel
theorem dX11_miles_2 : decode cX11_miles 2 = .ok (.iload_n 2, 1) := by decide +kernel
theorem dX11_miles_3 : decode cX11_miles 3 = .ok (.invokevirtual 209, 3) := by decide +kernel
theorem dX11_miles_6 : decode cX11_miles 6 = .ok (.ifCond .ne 5, 3) := by decide +kernel
theorem dX11_miles_9 : decode cX11_miles 9 = .ok (.iconst (-1), 1) := by decide +kernel
theorem dX11_miles_10 : decode cX11_miles 10 = .ok (.ireturn, 1) := by decide +kernel
theorem dX11_miles_11 : decode cX11_miles 11 = .ok (.aload_n 0, 1) := by decide +kernel
theorem dX11_miles_12 : decode cX11_miles 12 = .ok (.getfield 23, 3) := by decide +kernel
theorem dX11_miles_15 : decode cX11_miles 15 = .ok (.aload_n 0, 1) := by decide +kernel
theorem dX11_miles_16 : decode cX11_miles 16 = .ok (.getfield 10, 3) := by decide +kernel
theorem dX11_miles_19 : decode cX11_miles 19 = .ok (.aload_n 0, 1) := by decide +kernel
theorem dX11_miles_20 : decode cX11_miles 20 = .ok (.getfield 10, 3) := by decide +kernel
theorem dX11_miles_23 : decode cX11_miles 23 = .ok (.getfield 124, 3) := by decide +kernel
theorem dX11_miles_26 : decode cX11_miles 26 = .ok (.iload_n 1, 1) := by decide +kernel
theorem dX11_miles_27 : decode cX11_miles 27 = .ok (.invokevirtual 146, 3) := by decide +kernel
theorem dX11_miles_30 : decode cX11_miles 30 = .ok (.checkcast 130, 3) := by decide +kernel
theorem dX11_miles_33 : decode cX11_miles 33 = .ok (.getfield 153, 3) := by decide +kernel
theorem dX11_miles_36 : decode cX11_miles 36 = .ok (.iload_n 2, 1) := by decide +kernel
theorem dX11_miles_37 : decode cX11_miles 37 = .ok (.iadd, 1) := by decide +kernel
theorem dX11_miles_38 : decode cX11_miles 38 = .ok (.invokevirtual 223, 3) := by decide +kernel
theorem dX11_miles_41 : decode cX11_miles 41 = .ok (.aload_n 0, 1) := by decide +kernel
theorem dX11_miles_42 : decode cX11_miles 42 = .ok (.getfield 23, 3) := by decide +kernel
theorem dX11_miles_45 : decode cX11_miles 45 = .ok (.aload_n 0, 1) := by decide +kernel
theorem dX11_miles_46 : decode cX11_miles 46 = .ok (.getfield 10, 3) := by decide +kernel
theorem dX11_miles_49 : decode cX11_miles 49 = .ok (.iload_n 1, 1) := by decide +kernel
theorem dX11_miles_50 : decode cX11_miles 50 = .ok (.invokevirtual 227, 3) := by decide +kernel
theorem dX11_miles_53 : decode cX11_miles 53 = .ok (.ireturn, 1) := by decide +kernel
theorem ck_X11_227 : zcV RX11 RX10 yX10_milesOf cX10_milesOf 5 (some .int) 227 2 := ⟨hk_tq4 185 (by decide +kernel) (by decide +kernel), hk_tq4 182 (by decide +kernel) (by decide +kernel), hk_tq1 8 (by decide +kernel) (by decide +kernel), ⟨by decide, by decide, by decide +kernel⟩, hk_tq4 183 (by decide +kernel) (by decide +kernel), hk_tq4 184 (by decide +kernel) (by decide +kernel)⟩
set_option maxRecDepth 100000 in
set_option maxHeartbeats 4000000 in
theorem k_X11_miles (l : Launch) {D : va_G} {ar : Nat → ClassId} {B : Nat → Prop} {b n : Nat} {w0 : zcW} (A : Nat → Int) (τ : Nat → Nat → Int) (h : Int) (i : Int) (hA : ∀ i, inI (A i)) (hR : Rel9 ar b w0 A τ) (hs : si A) (hh : hi A) (hl : li A) (hlj : lj9 A) (hc : cn A) (hm : mI A) (hb : bI A) (hwi : wi A) (r_h : inI h) (r_i : inI i) : zs_M l D ar B b w0 n yX11_miles cX11_miles 3 (some .int) 7 176 [.ref b, .int (iz h), .int (iz i)] τ (some (.int (iz (if ((0 ≤ h ∧ h ≤ A 4 - 1) ∧ (A 9 = -1 ∨ A ((280 + (8 * h.toNat)) + 7) ≤ A 9)) ∧ (0 ≤ i ∧ i ≤ A ((280 + (8 * h.toNat)) + 3) - 1) then (if (lyS A (48 * A (280 + 8 * h.toNat + 1) + A (280 + 8 * h.toNat + 2) + i) (τ 25) (τ 26) (τ 27) (τ 28) (τ 29) h.toNat) < 0 then -1 else ml A (lyS A (48 * A (280 + 8 * h.toNat + 1) + A (280 + 8 * h.toNat + 2) + i) (τ 25) (τ 26) (τ 27) (τ 28) (τ 29) h.toNat) (A 1).toNat) else -1)))) (fun (X : Nat → Nat → Int) => sA (sA (sA (sA (sA (sA τ 18 (X 18)) 25 (X 25)) 26 (X 26)) 27 (X 27)) 28 (X 28)) 29 (X 29)) := by
  refine zc_start (own := RX11) (by decide +kernel) rfl (Nat.le_of_ble_eq_true rfl) ?_
  intro p e s m args below meth c C K hr hlk hnam
  have n7 := hR.l7.1
  refine hv_aload_n C 0 0 dX11_miles_0 rfl rfl ?_
  refine hv_iload_n C 1 1 dX11_miles_1 rfl rfl ?_
  refine hv_iload_n C 2 2 dX11_miles_2 rfl rfl ?_
  refine zt_callV [.int (iz h), .int (iz i)] [] C K cw_0 rfl (k_X11_isSeenSlot l A τ h i hA hR hh hc (by omega) (by omega)) ck_X11_209 (by decide) ⟨Nat.zero_le _, Nat.zero_le _⟩ rfl (Nat.le_of_ble_eq_true rfl) dX11_miles_3 ?_
  refine hv_as (xb (decide (((0 ≤ h ∧ h ≤ A 4 - 1) ∧ (A 9 = -1 ∨ A ((280 + (8 * h.toNat)) + 7) ≤ A 9)) ∧ (0 ≤ i ∧ i ≤ A ((280 + (8 * h.toNat)) + 3) - 1)))) rfl ?_
  refine hv_dif_ne C 11 dX11_miles_6 (by decide)  (fun h6 => ?_) (fun h6 => ?_)
  · skip
    obtain ⟨hn, rfl⟩ : ∃ n9 : Nat, h = (n9 : Int) := ⟨(h).toNat, by omega⟩
    (try simp only [Int.toNat_natCast] at *)
    have hhk := hh hn (by omega)
    refine hv_aload_n C 0 0 dX11_miles_11 rfl rfl ?_
    refine zc_get C K (v := .ref (b + 24)) 2 rfl hu_12 (by decide) cw_0 rfl fl_X11_23 rfl dX11_miles_12 ?_
    refine hv_aload_n C 0 0 dX11_miles_15 rfl rfl ?_
    refine zc_get C K (v := .ref (b + 1)) 0 rfl hu_12 (by decide) cw_0 rfl fl_X11_10 rfl dX11_miles_16 ?_
    refine hv_aload_n C 0 0 dX11_miles_19 rfl rfl ?_
    refine zc_get C K (v := .ref (b + 1)) 0 rfl hu_12 (by decide) cw_0 rfl fl_X11_10 rfl dX11_miles_20 ?_
    refine zc_get C K (v := .ref (b + 7)) 6 rfl hu_9 (by decide) (cw_at 1 rfl) rfl fl_X11_124 rfl dX11_miles_23 ?_
    refine hv_iload_n C 1 1 dX11_miles_26 rfl rfl ?_
    obtain ⟨p1, i1, o1⟩ := (hR : Rel9 ar b w0 A τ).l7.2 hn (by omega)
    refine zt_callV [.int (iz ((hn : Nat) : Int))] [.ref (b + 1), .ref (b + 24)] C K (cw_at 7 rfl) rfl (k_Jx4a65c_get_915e3 l 7 p1 τ hn rfl i1) ck_X11_146 (by decide) ⟨Nat.zero_le _, Nat.zero_le _⟩ rfl (Nat.le_of_ble_eq_true rfl) dX11_miles_27 ?_
    refine zc_cast C K (cw_ob o1) (hc := rfl) cl_X11_130 dX11_miles_30 ?_
    refine zc_get C K (v := .int (iz ((48 * (A (280 + 8 * hn + 1))) + (A (280 + 8 * hn + 2))))) 1 rfl hu_4 (by decide) (cw_ob o1) rfl fl_X11_153 rfl dX11_miles_33 ?_
    refine hv_iload_n C 2 2 dX11_miles_36 rfl rfl ?_
    refine hv_iadd C dX11_miles_37 ?_
    refine zs_callV [.ref (b + 1), .int (iz (((48 * (A (280 + 8 * hn + 1))) + (A (280 + 8 * hn + 2))) + i))] [] C K (cw_at 24 rfl) rfl (k_X10_lay_wa l A τ (((48 * (A (280 + 8 * hn + 1))) + (A (280 + 8 * hn + 2))) + i) hA hR hs hh hl hlj hc hm hb hwi (by omega)) ck_X11_223 (by decide) ⟨Nat.zero_le _, Nat.zero_le _⟩ rfl (Nat.le_of_ble_eq_true rfl) dX11_miles_38 (fun X2 => ?_)
    refine hv_aload_n C 0 0 dX11_miles_41 rfl rfl ?_
    refine zc_get C K (v := .ref (b + 24)) 2 rfl hu_12 (by decide) cw_0 rfl fl_X11_23 rfl dX11_miles_42 ?_
    refine hv_aload_n C 0 0 dX11_miles_45 rfl rfl ?_
    refine zc_get C K (v := .ref (b + 1)) 0 rfl hu_12 (by decide) cw_0 rfl fl_X11_10 rfl dX11_miles_46 ?_
    refine hv_iload_n C 1 1 dX11_miles_49 rfl rfl ?_
    refine zt_callV [.ref (b + 1), .int (iz ((hn : Nat) : Int))] [] C K (cw_at 24 rfl) rfl (k_X10_milesOf_wa l A (sA (sA (sA (sA (sA (sA τ 18 (X2 18)) 25 (lyS A (((48 * (A (280 + 8 * hn + 1))) + (A (280 + 8 * hn + 2))) + i) (τ 25) (τ 26) (τ 27) (τ 28) (τ 29))) 26 (X2 26)) 27 (X2 27)) 28 (X2 28)) 29 (X2 29)) hn hA (by repeat (first | exact hR | refine rl_sA (by decide) ?_)) hc hwi (by omega) (lyS_r hwi hc _ _ _ _ _ _)) ck_X11_227 (by decide) ⟨Nat.zero_le _, Nat.zero_le _⟩ rfl (Nat.le_of_ble_eq_true rfl) dX11_miles_50 ?_
    refine hv_as ((if (lyS A (((48 * (A (280 + 8 * hn + 1))) + (A (280 + 8 * hn + 2))) + i) (τ 25) (τ 26) (τ 27) (τ 28) (τ 29)) hn < 0 then -1 else ml A ((lyS A (((48 * (A (280 + 8 * hn + 1))) + (A (280 + 8 * hn + 2))) + i) (τ 25) (τ 26) (τ 27) (τ 28) (τ 29)) hn) (A 1).toNat)) rfl ?_
    exact zs_iret C hr hlk (by (try simp only [Int.toNat_natCast] at *); first | exact if_n (by omega) rfl | exact if_p (by omega) rfl) ⟨(sA (sA (sA (sA (sA (sA τ 18 (X2 18)) 25 (lyS A (((48 * (A (280 + 8 * hn + 1))) + (A (280 + 8 * hn + 2))) + i) (τ 25) (τ 26) (τ 27) (τ 28) (τ 29))) 26 (X2 26)) 27 (X2 27)) 28 (X2 28)) 29 (X2 29)), by first | rfl | (funext j9; by_cases hj18 : j9 = 18; (subst hj18; rfl); by_cases hj25 : j9 = 25; (subst hj25; rfl); by_cases hj26 : j9 = 26; (subst hj26; rfl); by_cases hj27 : j9 = 27; (subst hj27; rfl); by_cases hj28 : j9 = 28; (subst hj28; rfl); by_cases hj29 : j9 = 29; (subst hj29; rfl); simp only [sA, if_neg hj18, if_neg hj25, if_neg hj26, if_neg hj27, if_neg hj28, if_neg hj29])⟩ dX11_miles_53
  · skip
    refine hv_iconst C dX11_miles_9 ?_
    exact zs_iret C hr hlk (by (try simp only [Int.toNat_natCast] at *); first | exact if_n (by omega) rfl | exact if_p (by omega) rfl) ⟨τ, by first | rfl | (funext j9; by_cases hj18 : j9 = 18; (subst hj18; rfl); by_cases hj25 : j9 = 25; (subst hj25; rfl); by_cases hj26 : j9 = 26; (subst hj26; rfl); by_cases hj27 : j9 = 27; (subst hj27; rfl); by_cases hj28 : j9 = 28; (subst hj28; rfl); by_cases hj29 : j9 = 29; (subst hj29; rfl); simp only [sA, if_neg hj18, if_neg hj25, if_neg hj26, if_neg hj27, if_neg hj28, if_neg hj29])⟩ dX11_miles_10
