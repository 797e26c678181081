theorem bk_m (A : Nat → Int) (s d t : Int) : ∀ n : Nat, -1 ≤ bk A s d t n ∧ bk A s d t n < (n : Int)
  | 0 => by simp [bk]
  | n + 1 => by
    have a := bk_m A s d t n
    unfold bk
    split <;> omega
theorem sd_1 {A : Nat → Int} {s : Nat} {d t x : Int} (e : bk A s d t (A 5).toNat = x) (h : 0 ≤ x) : sd A s d t = 100 + x := by
  unfold sd; rw [e, if_pos h]
theorem sd_2 {A : Nat → Int} {s : Nat} {d t x y : Int} (e : bk A s d t (A 5).toNat = x) (h : ¬ 0 ≤ x) (e2 : hk9 A s d t (member A s d) (A 4).toNat 0 (-1) = y) (h2 : 0 ≤ y) : sd A s d t = y := by
  unfold sd; rw [e, if_neg h, hk_sh, e2, if_pos h2]
theorem sd_3 {A : Nat → Int} {s : Nat} {d t x y : Int} (e : bk A s d t (A 5).toNat = x) (h : ¬ 0 ≤ x) (e2 : hk9 A s d t (member A s d) (A 4).toNat 0 (-1) = y) (h2 : ¬ 0 ≤ y) : sd A s d t = own A s d t := by
  unfold sd; rw [e, if_neg h, hk_sh, e2, if_neg h2]
def ss9 (A : Nat → Int) (s h : Nat) : Nat → Int
  | 0 => 0
  | i + 1 => ss9 A s h i + (if sd A s (A (280 + 8 * h + 1)) (A (280 + 8 * h + 2) + (i : Int)) = (h : Int) then 1 else 0)
theorem ss_od (A : Nat → Int) (s h : Nat) : ∀ i : Nat, od1 A s h i = (i : Int) - ss9 A s h i ∧ 0 ≤ ss9 A s h i ∧ ss9 A s h i ≤ (i : Int)
  | 0 => by simp [od1, ss9]
  | i + 1 => by
    have a := ss_od A s h i
    unfold od1 ss9
    split <;> omega
theorem lf_22 (A : Nat → Int) (s h : Nat) (i : Int) (w : Nat) : ∀ f k : Nat, 0 ≤ lf A s h i true w f k → A (800 + 320 * w + 20 * (lf A s h i true w f k).toNat + 17) = 22
  | 0, k, z => absurd z (by show ¬ 0 ≤ (-1 : Int); decide)
  | f + 1, k, z => by
    by_cases c : ((decide (A (800 + 320 * w + 20 * k + 17) = 22) == true) && hd A (800 + 320 * w + 20 * k) s h i (A (800 + 320 * w + 20 * k)).toNat) = true
    · rw [lf_y (by omega) c, Int.toNat_natCast]
      rw [Bool.and_eq_true] at c
      simpa using c.1
    · have c2 := Bool.eq_false_iff.mpr c
      rw [lf_n (by omega) c2] at z ⊢
      exact lf_22 A s h i w f (k + 1) z
theorem pay_c {A : Nat → Int} {s h w : Nat} {i : Int} (hh : hi A) (hl : li A) (h2 : (h : Int) < A 4) (hw : A (280 + 8 * h + 0) = (w : Int)) : (if 0 ≤ line A s h i true ∧ line A s h i true ≤ A (14 + w) - 1 then (if A (800 + 320 * w + 20 * (line A s h i true).toNat + 17) = 22 then A (800 + 320 * w + 20 * (line A s h i true).toNat + 18) else 0) else 0) = (if line A s h i true < 0 then 0 else la A h (line A s h i true).toNat 18) := by
  have hw0 : A (280 + 8 * h) = (w : Int) := hw
  have a := hh h h2
  have b := (hl w (by omega)).1
  have e : line A s h i true = lf A s h i true w (A (14 + w)).toNat 0 := by unfold line; rw [hw0, Int.toNat_natCast]
  have r := lf_rng A s h i true w (A (14 + w)).toNat 0
  rw [← e] at r
  unfold la
  rw [hw0, Int.toNat_natCast]
  by_cases z : line A s h i true < 0
  · rw [if_pos z, if_neg (by omega)]
  · have := r.2 (by omega)
    have k := lf_22 A s h i w (A (14 + w)).toNat 0
    rw [← e] at k
    rw [if_neg z, if_pos (by omega), if_pos (k (by omega))]

theorem dX8_sentAt_0 : decode cX8_sentAt 0 = .ok (.aload_n 0, 1) := by decide +kernel
theorem dX8_sentAt_1 : decode cX8_sentAt 1 = .ok (.iload_n 1, 1) := by decide +kernel
theorem dX8_sentAt_2 : decode cX8_sentAt 2 = .ok (.iload_n 2, 1) := by decide +kernel
theorem dX8_sentAt_3 : decode cX8_sentAt 3 = .ok (.invokevirtual 183, 3) := by decide +kernel
theorem dX8_sentAt_6 : decode cX8_sentAt 6 = .ok (.istore_n 3, 1) := by decide +kernel
theorem dX8_sentAt_7 : decode cX8_sentAt 7 = .ok (.iload_n 3, 1) := by decide +kernel
theorem dX8_sentAt_8 : decode cX8_sentAt 8 = .ok (.iconst (-1), 1) := by decide +kernel
theorem dX8_sentAt_9 : decode cX8_sentAt 9 = .ok (.if_icmp .eq 8, 3) := by decide +kernel
theorem dX8_sentAt_12 : decode cX8_sentAt 12 = .ok (.bipush 100, 2) := by decide +kernel
theorem dX8_sentAt_14 : decode cX8_sentAt 14 = .ok (.iload_n 3, 1) := by decide +kernel
theorem dX8_sentAt_15 : decode cX8_sentAt 15 = .ok (.iadd, 1) := by decide +kernel
theorem dX8_sentAt_16 : decode cX8_sentAt 16 = .ok (.ireturn, 1) := by decide +kernel
theorem dX8_sentAt_17 : decode cX8_sentAt 17 = .ok (.aload_n 0, 1) := by decide +kernel
theorem dX8_sentAt_18 : decode cX8_sentAt 18 = .ok (.iload_n 1, 1) := by decide +kernel
theorem dX8_sentAt_19 : decode cX8_sentAt 19 = .ok (.iload_n 2, 1) := by decide +kernel
theorem dX8_sentAt_20 : decode cX8_sentAt 20 = .ok (.invokevirtual 186, 3) := by decide +kernel
theorem dX8_sentAt_23 : decode cX8_sentAt 23 = .ok (.istore 4, 2) := by decide +kernel
theorem dX8_sentAt_25 : decode cX8_sentAt 25 = .ok (.iload 4, 2) := by decide +kernel
theorem dX8_sentAt_27 : decode cX8_sentAt 27 = .ok (.iconst (-1), 1) := by decide +kernel
theorem dX8_sentAt_28 : decode cX8_sentAt 28 = .ok (.if_icmp .eq 6, 3) := by decide +kernel
theorem dX8_sentAt_31 : decode cX8_sentAt 31 = .ok (.iload 4, 2) := by decide +kernel
theorem dX8_sentAt_33 : decode cX8_sentAt 33 = .ok (.ireturn, 1) := by decide +kernel
theorem dX8_sentAt_34 : decode cX8_sentAt 34 = .ok (.aload_n 0, 1) := by decide +kernel
theorem dX8_sentAt_35 : decode cX8_sentAt 35 = .ok (.aload_n 0, 1) := by decide +kernel
theorem dX8_sentAt_36 : decode cX8_sentAt 36 = .ok (.getfield 18, 3) := by decide +kernel
theorem dX8_sentAt_39 : decode cX8_sentAt 39 = .ok (.iload_n 1, 1) := by decide +kernel
theorem dX8_sentAt_40 : decode cX8_sentAt 40 = .ok (.invokevirtual 104, 3) := by decide +kernel
theorem dX8_sentAt_43 : decode cX8_sentAt 43 = .ok (.checkcast 114, 3) := by decide +kernel
theorem dX8_sentAt_46 : decode cX8_sentAt 46 = .ok (.getfield 151, 3) := by decide +kernel
theorem dX8_sentAt_49 : decode cX8_sentAt 49 = .ok (.iload_n 2, 1) := by decide +kernel
theorem dX8_sentAt_50 : decode cX8_sentAt 50 = .ok (.invokevirtual 154, 3) := by decide +kernel
theorem dX8_sentAt_53 : decode cX8_sentAt 53 = .ok (.bipush 48, 2) := by decide +kernel
theorem dX8_sentAt_55 : decode cX8_sentAt 55 = .ok (.invokestatic 158, 3) := by decide +kernel
theorem dX8_sentAt_58 : decode cX8_sentAt 58 = .ok (.istore 5, 2) := by decide +kernel
theorem dX8_sentAt_60 : decode cX8_sentAt 60 = .ok (.aload_n 0, 1) := by decide +kernel
theorem dX8_sentAt_61 : decode cX8_sentAt 61 = .ok (.getfield 21, 3) := by decide +kernel
theorem dX8_sentAt_64 : decode cX8_sentAt 64 = .ok (.iload_n 1, 1) := by decide +kernel
theorem dX8_sentAt_65 : decode cX8_sentAt 65 = .ok (.iaload, 1) := by decide +kernel
theorem dX8_sentAt_66 : decode cX8_sentAt 66 = .ok (.iload 5, 2) := by decide +kernel
theorem dX8_sentAt_68 : decode cX8_sentAt 68 = .ok (.bipush 6, 2) := by decide +kernel
theorem dX8_sentAt_70 : decode cX8_sentAt 70 = .ok (.idiv, 1) := by decide +kernel
theorem dX8_sentAt_71 : decode cX8_sentAt 71 = .ok (.ishr, 1) := by decide +kernel
theorem dX8_sentAt_72 : decode cX8_sentAt 72 = .ok (.iconst 1, 1) := by decide +kernel
theorem dX8_sentAt_73 : decode cX8_sentAt 73 = .ok (.iand, 1) := by decide +kernel
theorem dX8_sentAt_74 : decode cX8_sentAt 74 = .ok (.iconst 1, 1) := by decide +kernel
theorem dX8_sentAt_75 : decode cX8_sentAt 75 = .ok (.if_icmp .ne 7, 3) := by decide +kernel
theorem dX8_sentAt_78 : decode cX8_sentAt 78 = .ok (.iconst 1, 1) := by decide +kernel
theorem dX8_sentAt_79 : decode cX8_sentAt 79 = .ok (.goto 4, 3) := by decide +kernel
theorem dX8_sentAt_82 : decode cX8_sentAt 82 = .ok (.iconst 0, 1) := by decide +kernel
theorem dX8_sentAt_83 : decode cX8_sentAt 83 = .ok (.istore 6, 2) := by decide +kernel
theorem dX8_sentAt_85 : decode cX8_sentAt 85 = .ok (.iload 6, 2) := by decide +kernel
theorem dX8_sentAt_87 : decode cX8_sentAt 87 = .ok (.ifCond .eq 9, 3) := by decide +kernel
theorem dX8_sentAt_90 : decode cX8_sentAt 90 = .ok (.sipush 200, 3) := by decide +kernel
theorem dX8_sentAt_93 : decode cX8_sentAt 93 = .ok (.goto 6, 3) := by decide +kernel
theorem dX8_sentAt_96 : decode cX8_sentAt 96 = .ok (.sipush 300, 3) := by decide +kernel
theorem dX8_sentAt_99 : decode cX8_sentAt 99 = .ok (.ireturn, 1) := by decide +kernel
theorem ck_X8_183 : zcV RX8 RX8 yX8_breakAt cX8_breakAt 7 (some .int) 183 2 := ⟨hk_tq4 113 (by decide +kernel) (by decide +kernel), hk_tq4 110 (by decide +kernel) (by decide +kernel), hk_tq1 2 (by decide +kernel) (by decide +kernel), ⟨by decide, by decide, by decide +kernel⟩, hk_tq4 112 (by decide +kernel) (by decide +kernel), hk_s 14 (by decide +kernel) (by decide +kernel)⟩
theorem ck_X8_186 : zcV RX8 RX8 yX8_hourAt cX8_hourAt 9 (some .int) 186 2 := ⟨hk_tq4 122 (by decide +kernel) (by decide +kernel), hk_tq4 119 (by decide +kernel) (by decide +kernel), hk_tq1 2 (by decide +kernel) (by decide +kernel), ⟨by decide, by decide, by decide +kernel⟩, hk_tq4 121 (by decide +kernel) (by decide +kernel), hk_s 15 (by decide +kernel) (by decide +kernel)⟩
theorem fl_X8_21 : Cond.fieldLink RX8 21 "HookUps$Told" (TX8 3).2.1 (TX8 3).2.2.1 ∈ hk_tb := hk_tq1 132 (by decide +kernel) (by decide +kernel)
set_option maxRecDepth 100000 in
set_option maxHeartbeats 4000000 in
theorem k_X8_sentAt (l : Launch) {D : va_G} {ar : Nat → ClassId} {B : Nat → Prop} {b n : Nat} {w0 : zcW} (A : Nat → Int) (d t : Int) (τ : Nat → Nat → Int) (st : Nat) (q : Int) (hA : ∀ i, inI (A i)) (hR : Rel9 ar b w0 A τ) (hs : si A) (hh : hi A) (hl : li A) (hlj : lj9 A) (hc : cn A) (hm : mI A) (hb : bI A) (hq : q = 48 * d + t ∧ 0 ≤ t ∧ t ≤ 47 ∧ 0 ≤ d ∧ d ≤ 199) (h1 : (st : Int) < A 2) : zx_M l D ar B b w0 n yX8_sentAt cX8_sentAt 7 (some .int) 5 126 [.ref (b + 1), .int (iz ((st : Nat) : Int)), .int (iz q)] τ (some (.int (iz (sd A st d t)))) := by
  refine zc_start (own := RX8) (by decide +kernel) rfl (Nat.le_of_ble_eq_true rfl) ?_
  intro p e s m args below meth c C K hr hlk hnam
  have n3 := hR.l3.1
  have hsk := hs st h1
  refine hv_aload_n C 0 0 dX8_sentAt_0 rfl rfl ?_
  refine hv_iload_n C 1 1 dX8_sentAt_1 rfl rfl ?_
  refine hv_iload_n C 2 2 dX8_sentAt_2 rfl rfl ?_
  refine zt_callV [.int (iz ((st : Nat) : Int)), .int (iz q)] [] C K (cw_at 1 rfl) rfl (k_X8_breakAt l A d t τ ((st : Nat) : Int) q hA hR hb hc hq (by omega)) ck_X8_183 (by decide) ⟨Nat.zero_le _, Nat.zero_le _⟩ rfl (Nat.le_of_ble_eq_true rfl) dX8_sentAt_3 ?_
  refine hv_as ((bk A ((st : Nat) : Int) d t (A 5).toNat)) rfl ?_
  refine hv_nm (fun x1 ex1 => ?_)
  have rx1 : inI x1 := by rw [ex1]; exact (by have z := bk_m A (st : Int) d t (A 5).toNat; exact ⟨by omega, by omega⟩)
  refine hv_istore_n C 3 [(3, .int (iz x1)), (0, .ref (b + 1)), (1, .int (iz ((st : Nat) : Int))), (2, .int (iz q))] dX8_sentAt_6 rfl (by decide) rfl ?_
  have zbk := bk_m A (st : Int) d t (A 5).toNat
  have zb : bk A (st : Int) d t (A 5).toNat = x1 := ex1.symm
  refine hv_iload_n C 3 0 dX8_sentAt_7 rfl rfl ?_
  refine hv_iconst C dX8_sentAt_8 ?_
  refine hv_icmp_eq C 17 dX8_sentAt_9 (by decide) (by omega) (by omega) (fun h9 => ?_) (fun h9 => ?_)
  · skip
    refine hv_aload_n C 0 1 dX8_sentAt_17 rfl rfl ?_
    refine hv_iload_n C 1 2 dX8_sentAt_18 rfl rfl ?_
    refine hv_iload_n C 2 3 dX8_sentAt_19 rfl rfl ?_
    refine zx_callV [.int (iz ((st : Nat) : Int)), .int (iz q)] [] C K (cw_at 1 rfl) rfl (k_X8_hourAt l A d t τ st q hA hR hs hh hl hlj hc hm hb hq h1) ck_X8_186 (by decide) ⟨Nat.zero_le _, Nat.zero_le _⟩ rfl (Nat.le_of_ble_eq_true rfl) dX8_sentAt_20 (fun X2 => ?_)
    refine hv_as ((hk9 A st d t (member A st d) (A 4).toNat 0 (-1))) rfl ?_
    refine hv_nm (fun x3 ex3 => ?_)
    have rx3 : inI x3 := by rw [ex3]; exact (by have z := hk_r A st d t (member A st d) (A 4).toNat 0 (-1) (by omega) (by omega); exact ⟨by omega, by omega⟩)
    refine hv_istore C 4 [(4, .int (iz x3)), (3, .int (iz x1)), (0, .ref (b + 1)), (1, .int (iz ((st : Nat) : Int))), (2, .int (iz q))] dX8_sentAt_23 (by decide) rfl ?_
    have zhk := hk_r A st d t (member A st d) (A 4).toNat 0 (-1) (by omega) (by omega)
    have zh : hk9 A st d t (member A st d) (A 4).toNat 0 (-1) = x3 := ex3.symm
    refine hv_iload C 4 0 dX8_sentAt_25 rfl ?_
    refine hv_iconst C dX8_sentAt_27 ?_
    refine hv_icmp_eq C 34 dX8_sentAt_28 (by decide) (by omega) (by omega) (fun h28 => ?_) (fun h28 => ?_)
    · skip
      refine hv_aload_n C 0 2 dX8_sentAt_34 rfl rfl ?_
      refine hv_aload_n C 0 2 dX8_sentAt_35 rfl rfl ?_
      refine zc_get C K (v := .ref (b + 3)) 2 rfl hu_9 (by decide) (cw_at 1 rfl) rfl fl_X8_18 rfl dX8_sentAt_36 ?_
      refine hv_iload_n C 1 3 dX8_sentAt_39 rfl rfl ?_
      obtain ⟨p4, i4, o4⟩ := ((by repeat (first | exact hR | refine rl_sA (by decide) ?_)) : Rel9 ar b w0 A (sA τ 18 X2)).l3.2 st (by omega)
      refine zt_callV [.int (iz ((st : Nat) : Int))] [.ref (b + 1)] C K (cw_at 3 rfl) rfl (k_Jx4a65c_get_915e3 l 3 p4 (sA τ 18 X2) st rfl i4) ck_X8_104 (by decide) ⟨Nat.zero_le _, Nat.zero_le _⟩ rfl (Nat.le_of_ble_eq_true rfl) dX8_sentAt_40 ?_
      refine zc_cast C K (cw_ob o4) (hc := rfl) cl_X8_114 dX8_sentAt_43 ?_
      refine zc_get C K (v := .int (iz (A (80 + 4 * st + 1)))) 1 rfl hu_8 (by decide) (cw_ob o4) rfl fl_X8_151 rfl dX8_sentAt_46 ?_
      refine hv_nm (fun x5 ex5 => ?_)
      have rx5 : inI x5 := by rw [ex5]; exact (hA _)
      obtain ⟨zN, rfl⟩ : ∃ n9 : Nat, x5 = (n9 : Int) := ⟨(x5).toNat, by omega⟩
      have zzo : zo A st = zN := by unfold zo; omega
      refine hv_iload_n C 2 4 dX8_sentAt_49 rfl rfl ?_
      refine zt_callV [.int (iz ((zN : Nat) : Int)), .int (iz q)] [] C K (cw_at 1 rfl) rfl (k_X8_localPlace l A (sA τ 18 X2) zN q hA (by repeat (first | exact hR | refine rl_sA (by decide) ?_)) (by omega) (by omega)) ck_X8_154 (by decide) ⟨Nat.zero_le _, Nat.zero_le _⟩ rfl (Nat.le_of_ble_eq_true rfl) dX8_sentAt_50 ?_
      refine hv_as ((lo A zN (q / 48) (q % 48))) rfl ?_
      refine hv_nm (fun x6 ex6 => ?_)
      have zlo : -6 ≤ x6 ∧ x6 ≤ 9800 := by rw [ex6]; unfold lo; split <;> omega
      have zl2 : x6 = lo A (zo A st) d t := by rw [ex6, show q / 48 = d by omega, show q % 48 = t by omega, zzo]
      refine hv_bipush C dX8_sentAt_53 (by decide) ?_
      refine zt_callS [.int (iz x6), .int (iz 48)] [] C K (k_J9_floorMod_7cf53 l  (sA τ 18 X2) x6 (by omega)) ck_X8_158 (by decide) ⟨Nat.zero_le _, Nat.zero_le _⟩ rfl (Nat.le_of_ble_eq_true rfl) dX8_sentAt_55 ?_
      refine hv_as ((x6 % 48)) rfl ?_
      refine hv_istore C 5 [(5, .int (iz (x6 % 48))), (4, .int (iz x3)), (3, .int (iz x1)), (0, .ref (b + 1)), (1, .int (iz ((st : Nat) : Int))), (2, .int (iz q))] dX8_sentAt_58 (by decide) rfl ?_
      refine hv_aload_n C 0 3 dX8_sentAt_60 rfl rfl ?_
      refine zc_get C K (v := .ref (b + 4)) 3 rfl hu_9 (by decide) (cw_at 1 rfl) rfl fl_X8_21 rfl dX8_sentAt_61 ?_
      refine hv_iload_n C 1 4 dX8_sentAt_64 rfl rfl ?_
      have zow := hR.own st (by omega)
      rw [if_pos (by omega)] at zow
      refine zc_iald C K (f := (τ 4)) st (cw_at 4 rfl) (by omega) (by omega) (by decide) dX8_sentAt_65 ?_
      refine hv_as (τ 4 st) rfl ?_
      refine hv_iload C 5 0 dX8_sentAt_66 rfl ?_
      refine hv_bipush C dX8_sentAt_68 (by decide) ?_
      refine hv_idiv C (by omega) (by omega) (by omega) (by omega) dX8_sentAt_70 ?_
      refine hv_ishr C ((((x6 % 48) / 6) : Int)).toNat (by omega) (by omega) (by omega) dX8_sentAt_71 ?_
      refine hv_iconst C dX8_sentAt_72 ?_
      refine hv_imsk C 1 (by decide) (by decide) dX8_sentAt_73 ?_
      refine hv_iconst C dX8_sentAt_74 ?_
      refine hv_icmp_ne C 82 dX8_sentAt_75 (by decide) (by omega) (by omega) (fun h75 => ?_) (fun h75 => ?_)
      · skip
        refine hv_iconst C dX8_sentAt_82 ?_
        refine hv_istore C 6 [(6, .int (iz 0)), (5, .int (iz (x6 % 48))), (4, .int (iz x3)), (3, .int (iz x1)), (0, .ref (b + 1)), (1, .int (iz ((st : Nat) : Int))), (2, .int (iz q))] dX8_sentAt_83 (by decide) rfl ?_
        have zo9 : ¬ A (80 + 4 * st + 3) / 2 ^ ((lo A (zo A st) d t + 48) % 48 / 6).toNat % 2 = 1 := by rw [← zl2, ← zow, show ((x6 + 48) % 48 / 6).toNat = (((x6 % 48) / 6 : Int)).toNat by omega]; exact h75
        refine hv_iload C 6 0 dX8_sentAt_85 rfl ?_
        refine hv_if_eq C 96 dX8_sentAt_87 (by decide) (by decide) (fun _ => ?_) (fun h => absurd h (by decide))
        have zv : sd A st d t = 300 := by rw [sd_3 zb (by omega) zh (by omega)]; unfold own; exact if_neg zo9
        refine hv_sipush C dX8_sentAt_96 (by decide) ?_
        exact zx_iret C hr hlk (by first | exact zv.symm | omega) ⟨X2, rfl⟩ dX8_sentAt_99
      · skip
        refine hv_iconst C dX8_sentAt_78 ?_
        refine hv_goto C 83 dX8_sentAt_79 (by decide) ?_
        refine hv_istore C 6 [(6, .int (iz 1)), (5, .int (iz (x6 % 48))), (4, .int (iz x3)), (3, .int (iz x1)), (0, .ref (b + 1)), (1, .int (iz ((st : Nat) : Int))), (2, .int (iz q))] dX8_sentAt_83 (by decide) rfl ?_
        have zo9 : A (80 + 4 * st + 3) / 2 ^ ((lo A (zo A st) d t + 48) % 48 / 6).toNat % 2 = 1 := by rw [← zl2, ← zow, show ((x6 + 48) % 48 / 6).toNat = (((x6 % 48) / 6 : Int)).toNat by omega]; exact h75
        refine hv_iload C 6 0 dX8_sentAt_85 rfl ?_
        refine hv_if_eq C 96 dX8_sentAt_87 (by decide) (by decide) (fun h => absurd h (by decide)) (fun _ => ?_)
        have zv : sd A st d t = 200 := by rw [sd_3 zb (by omega) zh (by omega)]; unfold own; exact if_pos zo9
        refine hv_sipush C dX8_sentAt_90 (by decide) ?_
        refine hv_goto C 99 dX8_sentAt_93 (by decide) ?_
        exact zx_iret C hr hlk (by first | exact zv.symm | omega) ⟨X2, rfl⟩ dX8_sentAt_99
    · skip
      have zv : sd A st d t = x3 := sd_2 zb (by omega) zh (by omega)
      refine hv_iload C 4 0 dX8_sentAt_31 rfl ?_
      exact zx_iret C hr hlk (by first | exact zv.symm | omega) ⟨X2, rfl⟩ dX8_sentAt_33
  · skip
    have zv : sd A st d t = 100 + x1 := sd_1 zb (by omega)
    refine hv_bipush C dX8_sentAt_12 (by decide) ?_
    refine hv_iload_n C 3 0 dX8_sentAt_14 rfl rfl ?_
    refine hv_iadd C dX8_sentAt_15 ?_
    exact zx_iret C hr hlk (by first | exact zv.symm | omega) ⟨τ 18, (sA_id τ 18).symm⟩ dX8_sentAt_16
theorem dX8_slotsSent_0 : decode cX8_slotsSent 0 = .ok (.aload_n 0, 1) := by decide +kernel
theorem dX8_slotsSent_1 : decode cX8_slotsSent 1 = .ok (.getfield 31, 3) := by decide +kernel
theorem dX8_slotsSent_4 : decode cX8_slotsSent 4 = .ok (.iload_n 2, 1) := by decide +kernel
theorem dX8_slotsSent_5 : decode cX8_slotsSent 5 = .ok (.invokevirtual 104, 3) := by decide +kernel
theorem dX8_slotsSent_8 : decode cX8_slotsSent 8 = .ok (.checkcast 118, 3) := by decide +kernel
theorem dX8_slotsSent_11 : decode cX8_slotsSent 11 = .ok (.astore_n 3, 1) := by decide +kernel
theorem dX8_slotsSent_12 : decode cX8_slotsSent 12 = .ok (.iconst 0, 1) := by decide +kernel
theorem dX8_slotsSent_13 : decode cX8_slotsSent 13 = .ok (.istore 4, 2) := by decide +kernel
theorem dX8_slotsSent_15 : decode cX8_slotsSent 15 = .ok (.iconst 0, 1) := by decide +kernel
theorem dX8_slotsSent_16 : decode cX8_slotsSent 16 = .ok (.istore 5, 2) := by decide +kernel
theorem dX8_slotsSent_18 : decode cX8_slotsSent 18 = .ok (.iload 5, 2) := by decide +kernel
theorem dX8_slotsSent_20 : decode cX8_slotsSent 20 = .ok (.aload_n 3, 1) := by decide +kernel
theorem dX8_slotsSent_21 : decode cX8_slotsSent 21 = .ok (.getfield 172, 3) := by decide +kernel
theorem dX8_slotsSent_24 : decode cX8_slotsSent 24 = .ok (.if_icmp .ge 28, 3) := by decide +kernel
theorem dX8_slotsSent_27 : decode cX8_slotsSent 27 = .ok (.aload_n 0, 1) := by decide +kernel
theorem dX8_slotsSent_28 : decode cX8_slotsSent 28 = .ok (.iload_n 1, 1) := by decide +kernel
theorem dX8_slotsSent_29 : decode cX8_slotsSent 29 = .ok (.aload_n 3, 1) := by decide +kernel
theorem dX8_slotsSent_30 : decode cX8_slotsSent 30 = .ok (.getfield 213, 3) := by decide +kernel
theorem dX8_slotsSent_33 : decode cX8_slotsSent 33 = .ok (.iload 5, 2) := by decide +kernel
theorem dX8_slotsSent_35 : decode cX8_slotsSent 35 = .ok (.iadd, 1) := by decide +kernel
theorem dX8_slotsSent_36 : decode cX8_slotsSent 36 = .ok (.invokevirtual 216, 3) := by decide +kernel
theorem dX8_slotsSent_39 : decode cX8_slotsSent 39 = .ok (.iload_n 2, 1) := by decide +kernel
theorem dX8_slotsSent_40 : decode cX8_slotsSent 40 = .ok (.if_icmp .ne 6, 3) := by decide +kernel
theorem dX8_slotsSent_43 : decode cX8_slotsSent 43 = .ok (.iinc 4 1, 3) := by decide +kernel
theorem dX8_slotsSent_46 : decode cX8_slotsSent 46 = .ok (.iinc 5 1, 3) := by decide +kernel
theorem dX8_slotsSent_49 : decode cX8_slotsSent 49 = .ok (.goto (-31), 3) := by decide +kernel
theorem dX8_slotsSent_52 : decode cX8_slotsSent 52 = .ok (.iload 4, 2) := by decide +kernel
theorem dX8_slotsSent_54 : decode cX8_slotsSent 54 = .ok (.ireturn, 1) := by decide +kernel
theorem fl_X8_213 : Cond.fieldLink RX8 213 "HookUps$Hour" (TX3 1).2.1 (TX3 1).2.2.1 ∈ hk_tb := hk_tq3 97 (by decide +kernel) (by decide +kernel)
theorem ck_X8_216 : zcV RX8 RX8 yX8_sentAt cX8_sentAt 7 (some .int) 216 2 := ⟨hk_tq4 109 (by decide +kernel) (by decide +kernel), hk_tq5 14 (by decide +kernel) (by decide +kernel), hk_tq1 2 (by decide +kernel) (by decide +kernel), ⟨by decide, by decide, by decide +kernel⟩, hk_tq4 107 (by decide +kernel) (by decide +kernel), hk_tq4 108 (by decide +kernel) (by decide +kernel)⟩
set_option maxRecDepth 100000 in
set_option maxHeartbeats 4000000 in
theorem k_X8_slotsSent (l : Launch) {D : va_G} {ar : Nat → ClassId} {B : Nat → Prop} {b n : Nat} {w0 : zcW} (A : Nat → Int) (τ : Nat → Nat → Int) (st : Nat) (h : Nat) (hA : ∀ i, inI (A i)) (hR : Rel9 ar b w0 A τ) (hs : si A) (hh : hi A) (hl : li A) (hlj : lj9 A) (hc : cn A) (hm : mI A) (hb : bI A) (h1 : (st : Int) < A 2) (h2 : (h : Int) < A 4) : zx_M l D ar B b w0 n yX8_slotsSent cX8_slotsSent 6 (some .int) 6 152 [.ref (b + 1), .int (iz ((st : Nat) : Int)), .int (iz ((h : Nat) : Int))] τ (some (.int (iz (ss9 A st h (A (280 + 8 * h + 3)).toNat)))) := by
  refine zc_start (own := RX8) (by decide +kernel) rfl (Nat.le_of_ble_eq_true rfl) ?_
  intro p e s m args below meth c C K hr hlk hnam
  have n7 := hR.l7.1
  have hhk := hh h h2
  refine hv_aload_n C 0 0 dX8_slotsSent_0 rfl rfl ?_
  refine zc_get C K (v := .ref (b + 7)) 6 rfl hu_9 (by decide) (cw_at 1 rfl) rfl fl_X8_31 rfl dX8_slotsSent_1 ?_
  refine hv_iload_n C 2 2 dX8_slotsSent_4 rfl rfl ?_
  obtain ⟨p1, i1, o1⟩ := (hR : Rel9 ar b w0 A τ).l7.2 h (by omega)
  refine zt_callV [.int (iz ((h : Nat) : Int))] [] C K (cw_at 7 rfl) rfl (k_Jx4a65c_get_915e3 l 7 p1 τ h rfl i1) ck_X8_104 (by decide) ⟨Nat.zero_le _, Nat.zero_le _⟩ rfl (Nat.le_of_ble_eq_true rfl) dX8_slotsSent_5 ?_
  refine zc_cast C K (cw_ob o1) (hc := rfl) cl_X8_118 dX8_slotsSent_8 ?_
  refine hv_astore_n C 3 [(3, .ref p1), (0, .ref (b + 1)), (1, .int (iz ((st : Nat) : Int))), (2, .int (iz ((h : Nat) : Int)))] dX8_slotsSent_11 rfl (by decide) rfl ?_
  refine hv_iconst C dX8_slotsSent_12 ?_
  refine hv_istore C 4 [(4, .int (iz 0)), (3, .ref p1), (0, .ref (b + 1)), (1, .int (iz ((st : Nat) : Int))), (2, .int (iz ((h : Nat) : Int)))] dX8_slotsSent_13 (by decide) rfl ?_
  refine hv_iconst C dX8_slotsSent_15 ?_
  refine hv_istore C 5 [(5, .int (iz 0)), (4, .int (iz 0)), (3, .ref p1), (0, .ref (b + 1)), (1, .int (iz ((st : Nat) : Int))), (2, .int (iz ((h : Nat) : Int)))] dX8_slotsSent_16 (by decide) rfl ?_
  have L18 : ∀ (f : Nat) (sm : Int) (i : Nat) (X : Nat → Int), (A (280 + 8 * h + 3)).toNat - i < f → ((i : Int) ≤ A (280 + 8 * h + 3)) → (sm = ss9 A st h i) → hvV p l e { frames := 6, cells := 0, slots := 0, locals := 152 } s m args below meth c 6 B 0 0 (MQ below (zc_Q D B (fun r' w' n' => r' = (some (.int (iz (ss9 A st h (A (280 + 8 * h + 3)).toNat)))) ∧ (∃ X, w' = cw ar b (sA τ 18 X) w0) ∧ n' = n)) args s 0 0 B) (zc_I D B (cw ar b (sA τ 18 X) w0) n s.heap) 18 [(0, .ref (b + 1)), (1, .int (iz ((st : Nat) : Int))), (2, .int (iz ((h : Nat) : Int))), (3, .ref p1), (4, .int (iz sm)), (5, .int (iz ((i : Nat) : Int)))] [] := by
    intro f
    induction f with
    | zero => intro _ _ _ hm; exact absurd hm (Nat.not_lt_zero _)
    | succ f ih18 =>
      intro sm i X hm18 hi9 hsm
      refine hv_iload C 5 5 dX8_slotsSent_18 rfl ?_
      refine hv_aload_n C 3 3 dX8_slotsSent_20 rfl rfl ?_
      refine zc_get C K (v := .int (iz (A (280 + 8 * h + 3)))) 2 rfl hu_4 (by decide) (cw_ob o1) rfl fl_X8_172 rfl dX8_slotsSent_21 ?_
      refine hv_nm (fun x2 ex2 => ?_)
      have rx2 : inI x2 := by rw [ex2]; exact (hA _)
      refine hv_icmp_ge C 52 dX8_slotsSent_24 (by decide) (by omega) (by omega) (fun h24 => ?_) (fun h24 => ?_)
      · skip
        refine hv_iload C 4 4 dX8_slotsSent_52 rfl ?_
        exact zx_iret C hr hlk (by rw [hsm, show (A (280 + 8 * h + 3)).toNat = i by omega]) ⟨X, rfl⟩ dX8_slotsSent_54
      · skip
        refine hv_aload_n C 0 0 dX8_slotsSent_27 rfl rfl ?_
        refine hv_iload_n C 1 1 dX8_slotsSent_28 rfl rfl ?_
        refine hv_aload_n C 3 3 dX8_slotsSent_29 rfl rfl ?_
        refine zc_get C K (v := .int (iz ((48 * (A (280 + 8 * h + 1))) + (A (280 + 8 * h + 2))))) 1 rfl hu_4 (by decide) (cw_ob o1) rfl fl_X8_213 rfl dX8_slotsSent_30 ?_
        refine hv_iload C 5 5 dX8_slotsSent_33 rfl ?_
        refine hv_iadd C dX8_slotsSent_35 ?_
        refine zx_callV [.int (iz ((st : Nat) : Int)), .int (iz (((48 * (A (280 + 8 * h + 1))) + (A (280 + 8 * h + 2))) + ((i : Nat) : Int)))] [] C K (cw_at 1 rfl) rfl (k_X8_sentAt l A (A (280 + 8 * h + 1)) (A (280 + 8 * h + 2) + (i : Int)) (sA τ 18 X) st (((48 * (A (280 + 8 * h + 1))) + (A (280 + 8 * h + 2))) + ((i : Nat) : Int)) hA (by repeat (first | exact hR | refine rl_sA (by decide) ?_)) hs hh hl hlj hc hm hb (by omega) h1) ck_X8_216 (by decide) ⟨Nat.zero_le _, Nat.zero_le _⟩ rfl (Nat.le_of_ble_eq_true rfl) dX8_slotsSent_36 (fun X3 => ?_)
        refine hv_as ((sd A st (A (280 + 8 * h + 1)) (A (280 + 8 * h + 2) + (i : Int)))) rfl ?_
        refine zt_st (τ2 := sA τ 18 X3) (by rw [sA_sA]) ?_
        refine hv_nm (fun x4 ex4 => ?_)
        have rx4 : inI x4 := by rw [ex4]; exact (by have z := sd_rng hc st (A (280 + 8 * h + 1)) (A (280 + 8 * h + 2) + (i : Int)); exact ⟨by omega, by omega⟩)
        refine hv_iload_n C 2 2 dX8_slotsSent_39 rfl rfl ?_
        refine hv_icmp_ne C 46 dX8_slotsSent_40 (by decide) (by omega) (by omega) (fun h40 => ?_) (fun h40 => ?_)
        · skip
          refine hv_iinc C 5 5 [(5, .int (iz (((i : Nat) : Int) + 1))), (0, .ref (b + 1)), (1, .int (iz ((st : Nat) : Int))), (2, .int (iz ((h : Nat) : Int))), (3, .ref p1), (4, .int (iz sm))] dX8_slotsSent_46 rfl (by decide) rfl ?_
          refine hv_goto C 18 dX8_slotsSent_49 (by decide) ?_
          refine hv_loc [1, 2, 3, 4, 5, 0] [(0, .ref (b + 1)), (1, .int (iz ((st : Nat) : Int))), (2, .int (iz ((h : Nat) : Int))), (3, .ref p1), (4, .int (iz sm)), (5, .int (iz (((i : Nat) : Int) + 1)))] rfl ?_
          exact ih18 sm (i + 1) X3 (by omega) (by omega) (by rw [ss9]; first | (rw [if_pos (by omega)]; omega) | (rw [if_neg (by omega)]; omega))
        · skip
          refine hv_iinc C 4 4 [(4, .int (iz (sm + 1))), (0, .ref (b + 1)), (1, .int (iz ((st : Nat) : Int))), (2, .int (iz ((h : Nat) : Int))), (3, .ref p1), (5, .int (iz ((i : Nat) : Int)))] dX8_slotsSent_43 rfl (by decide) rfl ?_
          refine hv_iinc C 5 5 [(5, .int (iz (((i : Nat) : Int) + 1))), (4, .int (iz (sm + 1))), (0, .ref (b + 1)), (1, .int (iz ((st : Nat) : Int))), (2, .int (iz ((h : Nat) : Int))), (3, .ref p1)] dX8_slotsSent_46 rfl (by decide) rfl ?_
          refine hv_goto C 18 dX8_slotsSent_49 (by decide) ?_
          refine hv_loc [2, 3, 4, 5, 1, 0] [(0, .ref (b + 1)), (1, .int (iz ((st : Nat) : Int))), (2, .int (iz ((h : Nat) : Int))), (3, .ref p1), (4, .int (iz (sm + 1))), (5, .int (iz (((i : Nat) : Int) + 1)))] rfl ?_
          exact ih18 (sm + 1) (i + 1) X3 (by omega) (by omega) (by rw [ss9]; first | (rw [if_pos (by omega)]; omega) | (rw [if_neg (by omega)]; omega))
  refine hv_loc [3, 4, 5, 2, 1, 0] [(0, .ref (b + 1)), (1, .int (iz ((st : Nat) : Int))), (2, .int (iz ((h : Nat) : Int))), (3, .ref p1), (4, .int (iz 0)), (5, .int (iz 0))] rfl ?_
  refine zt_st (τ2 := sA τ 18 (τ 18)) ((sA_id τ 18).symm) ?_
  exact L18 _ 0 0 (τ 18) (Nat.lt_succ_self _) (by omega) rfl
theorem dX8_payFor_0 : decode cX8_payFor 0 = .ok (.aload_n 0, 1) := by decide +kernel
theorem dX8_payFor_1 : decode cX8_payFor 1 = .ok (.getfield 31, 3) := by decide +kernel
theorem dX8_payFor_4 : decode cX8_payFor 4 = .ok (.iload_n 2, 1) := by decide +kernel
theorem dX8_payFor_5 : decode cX8_payFor 5 = .ok (.invokevirtual 104, 3) := by decide +kernel
theorem dX8_payFor_8 : decode cX8_payFor 8 = .ok (.checkcast 118, 3) := by decide +kernel
theorem dX8_payFor_11 : decode cX8_payFor 11 = .ok (.astore_n 3, 1) := by decide +kernel
theorem dX8_payFor_12 : decode cX8_payFor 12 = .ok (.iconst 0, 1) := by decide +kernel
theorem dX8_payFor_13 : decode cX8_payFor 13 = .ok (.istore 4, 2) := by decide +kernel
theorem dX8_payFor_15 : decode cX8_payFor 15 = .ok (.iconst 0, 1) := by decide +kernel
theorem dX8_payFor_16 : decode cX8_payFor 16 = .ok (.istore 5, 2) := by decide +kernel
theorem dX8_payFor_18 : decode cX8_payFor 18 = .ok (.iload 5, 2) := by decide +kernel
theorem dX8_payFor_20 : decode cX8_payFor 20 = .ok (.aload_n 3, 1) := by decide +kernel
theorem dX8_payFor_21 : decode cX8_payFor 21 = .ok (.getfield 172, 3) := by decide +kernel
theorem dX8_payFor_24 : decode cX8_payFor 24 = .ok (.if_icmp .ge 55, 3) := by decide +kernel
theorem dX8_payFor_27 : decode cX8_payFor 27 = .ok (.aload_n 3, 1) := by decide +kernel
theorem dX8_payFor_28 : decode cX8_payFor 28 = .ok (.getfield 213, 3) := by decide +kernel
theorem dX8_payFor_31 : decode cX8_payFor 31 = .ok (.iload 5, 2) := by decide +kernel
theorem dX8_payFor_33 : decode cX8_payFor 33 = .ok (.iadd, 1) := by decide +kernel
theorem dX8_payFor_34 : decode cX8_payFor 34 = .ok (.istore 6, 2) := by decide +kernel
theorem dX8_payFor_36 : decode cX8_payFor 36 = .ok (.aload_n 0, 1) := by decide +kernel
theorem dX8_payFor_37 : decode cX8_payFor 37 = .ok (.iload_n 1, 1) := by decide +kernel
theorem dX8_payFor_38 : decode cX8_payFor 38 = .ok (.iload 6, 2) := by decide +kernel
theorem dX8_payFor_40 : decode cX8_payFor 40 = .ok (.invokevirtual 216, 3) := by decide +kernel
theorem dX8_payFor_43 : decode cX8_payFor 43 = .ok (.iload_n 2, 1) := by decide +kernel
theorem dX8_payFor_44 : decode cX8_payFor 44 = .ok (.if_icmp .ne 29, 3) := by decide +kernel
theorem dX8_payFor_47 : decode cX8_payFor 47 = .ok (.iload 4, 2) := by decide +kernel
theorem dX8_payFor_49 : decode cX8_payFor 49 = .ok (.aload_n 0, 1) := by decide +kernel
theorem dX8_payFor_50 : decode cX8_payFor 50 = .ok (.getfield 53, 3) := by decide +kernel
theorem dX8_payFor_53 : decode cX8_payFor 53 = .ok (.aload_n 3, 1) := by decide +kernel
theorem dX8_payFor_54 : decode cX8_payFor 54 = .ok (.getfield 178, 3) := by decide +kernel
theorem dX8_payFor_57 : decode cX8_payFor 57 = .ok (.aaload, 1) := by decide +kernel
theorem dX8_payFor_58 : decode cX8_payFor 58 = .ok (.aload_n 0, 1) := by decide +kernel
theorem dX8_payFor_59 : decode cX8_payFor 59 = .ok (.iload_n 1, 1) := by decide +kernel
theorem dX8_payFor_60 : decode cX8_payFor 60 = .ok (.aload_n 3, 1) := by decide +kernel
theorem dX8_payFor_61 : decode cX8_payFor 61 = .ok (.iload 6, 2) := by decide +kernel
theorem dX8_payFor_63 : decode cX8_payFor 63 = .ok (.iconst 1, 1) := by decide +kernel
theorem dX8_payFor_64 : decode cX8_payFor 64 = .ok (.invokevirtual 206, 3) := by decide +kernel
theorem dX8_payFor_67 : decode cX8_payFor 67 = .ok (.invokevirtual 219, 3) := by decide +kernel
theorem dX8_payFor_70 : decode cX8_payFor 70 = .ok (.iadd, 1) := by decide +kernel
theorem dX8_payFor_71 : decode cX8_payFor 71 = .ok (.istore 4, 2) := by decide +kernel
theorem dX8_payFor_73 : decode cX8_payFor 73 = .ok (.iinc 5 1, 3) := by decide +kernel
theorem dX8_payFor_76 : decode cX8_payFor 76 = .ok (.goto (-58), 3) := by decide +kernel
theorem dX8_payFor_79 : decode cX8_payFor 79 = .ok (.iload 4, 2) := by decide +kernel
theorem dX8_payFor_81 : decode cX8_payFor 81 = .ok (.ireturn, 1) := by decide +kernel
theorem ck_X8_219 : zcV RX8 RX1 yX1_payBy cX1_payBy 2 (some .int) 219 1 := ⟨hk_tq5 18 (by decide +kernel) (by decide +kernel), hk_tq5 15 (by decide +kernel) (by decide +kernel), hk_tq1 7 (by decide +kernel) (by decide +kernel), ⟨by decide, by decide, by decide +kernel⟩, hk_tq5 16 (by decide +kernel) (by decide +kernel), hk_tq5 17 (by decide +kernel) (by decide +kernel)⟩
set_option maxRecDepth 100000 in
set_option maxHeartbeats 4000000 in
theorem k_X8_payFor (l : Launch) {D : va_G} {ar : Nat → ClassId} {B : Nat → Prop} {b n : Nat} {w0 : zcW} (A : Nat → Int) (τ : Nat → Nat → Int) (st : Nat) (h : Nat) (hA : ∀ i, inI (A i)) (hR : Rel9 ar b w0 A τ) (hs : si A) (hh : hi A) (hl : li A) (hlj : lj9 A) (hc : cn A) (hm : mI A) (hb : bI A) (h1 : (st : Int) < A 2) (h2 : (h : Int) < A 4) : zx_M l D ar B b w0 n yX8_payFor cX8_payFor 7 (some .int) 6 152 [.ref (b + 1), .int (iz ((st : Nat) : Int)), .int (iz ((h : Nat) : Int))] τ (some (.int (iz (pd1 A st h (A (280 + 8 * h + 3)).toNat)))) := by
  refine zc_start (own := RX8) (by decide +kernel) rfl (Nat.le_of_ble_eq_true rfl) ?_
  intro p e s m args below meth c C K hr hlk hnam
  have n7 := hR.l7.1
  have hhk := hh h h2
  refine hv_aload_n C 0 0 dX8_payFor_0 rfl rfl ?_
  refine zc_get C K (v := .ref (b + 7)) 6 rfl hu_9 (by decide) (cw_at 1 rfl) rfl fl_X8_31 rfl dX8_payFor_1 ?_
  refine hv_iload_n C 2 2 dX8_payFor_4 rfl rfl ?_
  obtain ⟨p1, i1, o1⟩ := (hR : Rel9 ar b w0 A τ).l7.2 h (by omega)
  refine zt_callV [.int (iz ((h : Nat) : Int))] [] C K (cw_at 7 rfl) rfl (k_Jx4a65c_get_915e3 l 7 p1 τ h rfl i1) ck_X8_104 (by decide) ⟨Nat.zero_le _, Nat.zero_le _⟩ rfl (Nat.le_of_ble_eq_true rfl) dX8_payFor_5 ?_
  refine zc_cast C K (cw_ob o1) (hc := rfl) cl_X8_118 dX8_payFor_8 ?_
  refine hv_astore_n C 3 [(3, .ref p1), (0, .ref (b + 1)), (1, .int (iz ((st : Nat) : Int))), (2, .int (iz ((h : Nat) : Int)))] dX8_payFor_11 rfl (by decide) rfl ?_
  refine hv_iconst C dX8_payFor_12 ?_
  refine hv_istore C 4 [(4, .int (iz 0)), (3, .ref p1), (0, .ref (b + 1)), (1, .int (iz ((st : Nat) : Int))), (2, .int (iz ((h : Nat) : Int)))] dX8_payFor_13 (by decide) rfl ?_
  refine hv_iconst C dX8_payFor_15 ?_
  refine hv_istore C 5 [(5, .int (iz 0)), (4, .int (iz 0)), (3, .ref p1), (0, .ref (b + 1)), (1, .int (iz ((st : Nat) : Int))), (2, .int (iz ((h : Nat) : Int)))] dX8_payFor_16 (by decide) rfl ?_
  have L18 : ∀ (f : Nat) (sm : Int) (i : Nat) (X : Nat → Int), (A (280 + 8 * h + 3)).toNat - i < f → ((i : Int) ≤ A (280 + 8 * h + 3)) → (sm = pd1 A st h i) → hvV p l e { frames := 6, cells := 0, slots := 0, locals := 152 } s m args below meth c 7 B 0 0 (MQ below (zc_Q D B (fun r' w' n' => r' = (some (.int (iz (pd1 A st h (A (280 + 8 * h + 3)).toNat)))) ∧ (∃ X, w' = cw ar b (sA τ 18 X) w0) ∧ n' = n)) args s 0 0 B) (zc_I D B (cw ar b (sA τ 18 X) w0) n s.heap) 18 [(0, .ref (b + 1)), (1, .int (iz ((st : Nat) : Int))), (2, .int (iz ((h : Nat) : Int))), (3, .ref p1), (4, .int (iz sm)), (5, .int (iz ((i : Nat) : Int)))] [] := by
    intro f
    induction f with
    | zero => intro _ _ _ hm; exact absurd hm (Nat.not_lt_zero _)
    | succ f ih18 =>
      intro sm i X hm18 hi9 hsm
      refine hv_iload C 5 5 dX8_payFor_18 rfl ?_
      refine hv_aload_n C 3 3 dX8_payFor_20 rfl rfl ?_
      refine zc_get C K (v := .int (iz (A (280 + 8 * h + 3)))) 2 rfl hu_4 (by decide) (cw_ob o1) rfl fl_X8_172 rfl dX8_payFor_21 ?_
      refine hv_nm (fun x2 ex2 => ?_)
      have rx2 : inI x2 := by rw [ex2]; exact (hA _)
      refine hv_icmp_ge C 79 dX8_payFor_24 (by decide) (by omega) (by omega) (fun h24 => ?_) (fun h24 => ?_)
      · skip
        refine hv_iload C 4 4 dX8_payFor_79 rfl ?_
        exact zx_iret C hr hlk (by rw [hsm, show (A (280 + 8 * h + 3)).toNat = i by omega]) ⟨X, rfl⟩ dX8_payFor_81
      · skip
        refine hv_aload_n C 3 3 dX8_payFor_27 rfl rfl ?_
        refine zc_get C K (v := .int (iz ((48 * (A (280 + 8 * h + 1))) + (A (280 + 8 * h + 2))))) 1 rfl hu_4 (by decide) (cw_ob o1) rfl fl_X8_213 rfl dX8_payFor_28 ?_
        refine hv_iload C 5 5 dX8_payFor_31 rfl ?_
        refine hv_iadd C dX8_payFor_33 ?_
        refine hv_istore C 6 [(6, .int (iz (((48 * (A (280 + 8 * h + 1))) + (A (280 + 8 * h + 2))) + ((i : Nat) : Int)))), (0, .ref (b + 1)), (1, .int (iz ((st : Nat) : Int))), (2, .int (iz ((h : Nat) : Int))), (3, .ref p1), (4, .int (iz sm)), (5, .int (iz ((i : Nat) : Int)))] dX8_payFor_34 (by decide) rfl ?_
        refine hv_aload_n C 0 1 dX8_payFor_36 rfl rfl ?_
        refine hv_iload_n C 1 2 dX8_payFor_37 rfl rfl ?_
        refine hv_iload C 6 0 dX8_payFor_38 rfl ?_
        refine zx_callV [.int (iz ((st : Nat) : Int)), .int (iz (((48 * (A (280 + 8 * h + 1))) + (A (280 + 8 * h + 2))) + ((i : Nat) : Int)))] [] C K (cw_at 1 rfl) rfl (k_X8_sentAt l A (A (280 + 8 * h + 1)) (A (280 + 8 * h + 2) + (i : Int)) (sA τ 18 X) st (((48 * (A (280 + 8 * h + 1))) + (A (280 + 8 * h + 2))) + ((i : Nat) : Int)) hA (by repeat (first | exact hR | refine rl_sA (by decide) ?_)) hs hh hl hlj hc hm hb (by omega) h1) ck_X8_216 (by decide) ⟨Nat.zero_le _, Nat.zero_le _⟩ rfl (Nat.le_of_ble_eq_true rfl) dX8_payFor_40 (fun X3 => ?_)
        refine hv_as ((sd A st (A (280 + 8 * h + 1)) (A (280 + 8 * h + 2) + (i : Int)))) rfl ?_
        refine zt_st (τ2 := sA τ 18 X3) (by rw [sA_sA]) ?_
        refine hv_nm (fun x4 ex4 => ?_)
        have rx4 : inI x4 := by rw [ex4]; exact (by have z := sd_rng hc st (A (280 + 8 * h + 1)) (A (280 + 8 * h + 2) + (i : Int)); exact ⟨by omega, by omega⟩)
        refine hv_iload_n C 2 3 dX8_payFor_43 rfl rfl ?_
        refine hv_icmp_ne C 73 dX8_payFor_44 (by decide) (by omega) (by omega) (fun h44 => ?_) (fun h44 => ?_)
        · skip
          refine hv_iinc C 5 6 [(5, .int (iz (((i : Nat) : Int) + 1))), (6, .int (iz (((48 * (A (280 + 8 * h + 1))) + (A (280 + 8 * h + 2))) + ((i : Nat) : Int)))), (0, .ref (b + 1)), (1, .int (iz ((st : Nat) : Int))), (2, .int (iz ((h : Nat) : Int))), (3, .ref p1), (4, .int (iz sm))] dX8_payFor_73 rfl (by decide) rfl ?_
          refine hv_goto C 18 dX8_payFor_76 (by decide) ?_
          refine hv_loc [2, 3, 4, 5, 6, 0] [(0, .ref (b + 1)), (1, .int (iz ((st : Nat) : Int))), (2, .int (iz ((h : Nat) : Int))), (3, .ref p1), (4, .int (iz sm)), (5, .int (iz (((i : Nat) : Int) + 1)))] rfl ?_
          exact ih18 sm (i + 1) X3 (by omega) (by omega) (by rw [pd1]; first | (rw [if_pos (by omega), ← zpy]; omega) | (rw [if_neg (by omega)]; omega))
        · skip
          refine hv_iload C 4 5 dX8_payFor_47 rfl ?_
          refine hv_aload_n C 0 1 dX8_payFor_49 rfl rfl ?_
          refine zc_get C K (v := .ref (b + 10)) 15 rfl hu_9 (by decide) (cw_at 1 rfl) rfl fl_X8_53 rfl dX8_payFor_50 ?_
          refine hv_aload_n C 3 4 dX8_payFor_53 rfl rfl ?_
          refine zc_get C K (v := .int (iz (A (280 + 8 * h + 0)))) 0 rfl hu_4 (by decide) (cw_ob o1) rfl fl_X8_178 rfl dX8_payFor_54 ?_
          refine hv_nm (fun x5 ex5 => ?_)
          have rx5 : inI x5 := by rw [ex5]; exact (hA _)
          obtain ⟨wN, rfl⟩ : ∃ n9 : Nat, x5 = (n9 : Int) := ⟨(x5).toNat, by omega⟩
          refine zc_aald C K (f := (fun q => rfv ((τ 10) q))) 3 wN (cw_at 10 rfl) rfl (by omega) (by omega) (by decide) dX8_payFor_57 ?_
          obtain ⟨p8, e8, hC8⟩ := hR.con wN (by omega)
          obtain ⟨d8, c8, t8, _, _, _, hO8, _⟩ := id hC8
          refine hv_asv (.ref p8) (by show va_rf (rfv (τ 10 wN)) = _; rw [e8, rfv_n]; rfl) ?_
          refine hv_aload_n C 0 1 dX8_payFor_58 rfl rfl ?_
          refine hv_iload_n C 1 2 dX8_payFor_59 rfl rfl ?_
          refine hv_aload_n C 3 4 dX8_payFor_60 rfl rfl ?_
          refine hv_iload C 6 0 dX8_payFor_61 rfl ?_
          refine hv_iconst C dX8_payFor_63 ?_
          refine zx_callV [.int (iz ((st : Nat) : Int)), .ref p1, .int (iz (((48 * (A (280 + 8 * h + 1))) + (A (280 + 8 * h + 2))) + ((i : Nat) : Int))), .int (iz 1)] [.ref p8, .int (iz sm)] C K (cw_at 1 rfl) rfl (k_X8_lineFor l A h p1 (i : Int) (sA τ 18 X3) st (((48 * (A (280 + 8 * h + 1))) + (A (280 + 8 * h + 2))) + ((i : Nat) : Int)) true hA (by repeat (first | exact hR | refine rl_sA (by decide) ?_)) o1 hs hh hl hlj hc h1 h2 (by omega)) ck_X8_206 (by decide) ⟨Nat.zero_le _, Nat.zero_le _⟩ rfl (Nat.le_of_ble_eq_true rfl) dX8_payFor_64 (fun X6 => ?_)
          refine hv_as ((line A st h (i : Int) true)) rfl ?_
          refine zt_st (τ2 := sA τ 18 X6) (by rw [sA_sA]) ?_
          refine hv_nm (fun x7 ex7 => ?_)
          have rx7 : inI x7 := by rw [ex7]; exact (by have z := line_rng st (h := h) (i : Int) true hh hl h2; exact ⟨by omega, by omega⟩)
          have ezl : x7 = line A st h (i : Int) true := ex7
          refine zt_callV [.int (iz x7)] [.int (iz sm)] C K (cw_ob hO8) rfl (k_X1_payBy l A wN p8 (sA τ 18 X6) x7 hA hC8 hl hlj (by omega) (by omega)) ck_X8_219 (by decide) ⟨Nat.zero_le _, Nat.zero_le _⟩ rfl (Nat.le_of_ble_eq_true rfl) dX8_payFor_67 ?_
          refine hv_as ((if 0 ≤ x7 ∧ x7 ≤ A (14 + wN) - 1 then (if A ((800 + 320 * wN + 20 * x7.toNat) + 17) = 22 then A ((800 + 320 * wN + 20 * x7.toNat) + 18) else 0) else 0)) rfl ?_
          refine hv_nm (fun x8 ex8 => ?_)
          have zpy : x8 = (if line A st h (i : Int) true < 0 then 0 else la A h (line A st h (i : Int) true).toNat 18) := by rw [ex8, ezl]; exact pay_c hh hl h2 (by omega)
          refine hv_iadd C dX8_payFor_70 ?_
          refine hv_istore C 4 [(4, .int (iz (sm + x8))), (6, .int (iz (((48 * (A (280 + 8 * h + 1))) + (A (280 + 8 * h + 2))) + ((i : Nat) : Int)))), (0, .ref (b + 1)), (1, .int (iz ((st : Nat) : Int))), (2, .int (iz ((h : Nat) : Int))), (3, .ref p1), (5, .int (iz ((i : Nat) : Int)))] dX8_payFor_71 (by decide) rfl ?_
          refine hv_iinc C 5 6 [(5, .int (iz (((i : Nat) : Int) + 1))), (4, .int (iz (sm + x8))), (6, .int (iz (((48 * (A (280 + 8 * h + 1))) + (A (280 + 8 * h + 2))) + ((i : Nat) : Int)))), (0, .ref (b + 1)), (1, .int (iz ((st : Nat) : Int))), (2, .int (iz ((h : Nat) : Int))), (3, .ref p1)] dX8_payFor_73 rfl (by decide) rfl ?_
          refine hv_goto C 18 dX8_payFor_76 (by decide) ?_
          refine hv_loc [3, 4, 5, 6, 1, 0] [(0, .ref (b + 1)), (1, .int (iz ((st : Nat) : Int))), (2, .int (iz ((h : Nat) : Int))), (3, .ref p1), (4, .int (iz (sm + x8))), (5, .int (iz (((i : Nat) : Int) + 1)))] rfl ?_
          exact ih18 (sm + x8) (i + 1) X6 (by omega) (by omega) (by rw [pd1]; first | (rw [if_pos (by omega), ← zpy]; omega) | (rw [if_neg (by omega)]; omega))
  refine hv_loc [3, 4, 5, 2, 1, 0] [(0, .ref (b + 1)), (1, .int (iz ((st : Nat) : Int))), (2, .int (iz ((h : Nat) : Int))), (3, .ref p1), (4, .int (iz 0)), (5, .int (iz 0))] rfl ?_
  refine zt_st (τ2 := sA τ 18 (τ 18)) ((sA_id τ 18).symm) ?_
  exact L18 _ 0 0 (τ 18) (Nat.lt_succ_self _) (by omega) rfl
