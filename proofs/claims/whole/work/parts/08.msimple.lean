/-! the state as one row of numbers: A = what 'all' holds -/
def ua (A : Nat → Int) (i : Nat) (v : Int) : Nat → Int := fun k => if k = i then v else A k
def sA (σ : Nat → Nat → Int) (j : Nat) (A : Nat → Int) : Nat → Nat → Int := fun x => if x = j then A else σ x
theorem u2_sA (σ : Nat → Nat → Int) (j i : Nat) (v : Int) : u2 σ j i v = sA σ j (ua (σ j) i v) := rfl
theorem sA_sA (σ : Nat → Nat → Int) (j : Nat) (A B : Nat → Int) : sA (sA σ j A) j B = sA σ j B := by funext x; simp only [sA]; split <;> rfl
theorem sA_at (σ : Nat → Nat → Int) (j : Nat) (A : Nat → Int) : sA σ j A j = A := by simp [sA]
theorem sA_ne (σ : Nat → Nat → Int) {j k : Nat} (A : Nat → Int) (h : k ≠ j) : sA σ j A k = σ k := by simp [sA, h]
theorem ua_at (A : Nat → Int) (i : Nat) (v : Int) : ua A i v i = v := by simp [ua]
theorem ua_ne (A : Nat → Int) {i k : Nat} (v : Int) (h : k ≠ i) : ua A i v k = A k := by simp [ua, h]
theorem if_p {P : Prop} [Decidable P] {α : Type} {a b c : α} (h : P) (e : c = a) : c = if P then a else b := by rw [if_pos h, e]
theorem if_n {P : Prop} [Decidable P] {α : Type} {a b c : α} (h : ¬ P) (e : c = b) : c = if P then a else b := by rw [if_neg h, e]
/-- how many of each there may be, and the other small numbers -/
abbrev cn (A : Nat → Int) : Prop := (0 ≤ A 0 ∧ A 0 ≤ 8) ∧ (0 ≤ A 1 ∧ A 1 ≤ 12) ∧ (0 ≤ A 2 ∧ A 2 ≤ 8) ∧ (0 ≤ A 3 ∧ A 3 ≤ 40) ∧ (0 ≤ A 4 ∧ A 4 ≤ 24) ∧ (0 ≤ A 5 ∧ A 5 ≤ 24) ∧ (0 ≤ A 6 ∧ A 6 ≤ 40) ∧ (0 ≤ A 7 ∧ A 7 ≤ 6) ∧ (0 ≤ A 8 ∧ A 8 ≤ 199) ∧ (-1 ≤ A 9 ∧ A 9 ≤ 199) ∧ (0 ≤ A 10 ∧ A 10 ≤ 500) ∧ (1 ≤ A 13 ∧ A 13 ≤ 3)
abbrev ok_wire (A : Nat → Int) (a b miles circuits : Int) : Prop := ¬ A 1 = 12 ∧ (0 ≤ a ∧ a ≤ A 0 - 1) ∧ (0 ≤ b ∧ b ≤ A 0 - 1) ∧ ¬ a = b ∧ (1 ≤ miles ∧ miles ≤ 999) ∧ (1 ≤ circuits ∧ circuits ≤ 3)
def do_wire (A : Nat → Int) (a b miles circuits : Int) : Nat → Int := ua (ua (ua (ua (ua A (30 + 4 * (A 1).toNat) a) (30 + 4 * (A 1).toNat + 1) b) (30 + 4 * (A 1).toNat + 2) miles) (30 + 4 * (A 1).toNat + 3) circuits) 1 (A 1 + 1)
abbrev ok_station (A : Nat → Int) (town zone power : Int) : Prop := ¬ A 2 = 8 ∧ (0 ≤ town ∧ town ≤ A 0 - 1) ∧ (0 ≤ zone ∧ zone ≤ 3) ∧ (1 ≤ power ∧ power ≤ 99)
def do_station (A : Nat → Int) (town zone power : Int) : Nat → Int := ua (ua (ua (ua (ua A (80 + 4 * (A 2).toNat) town) (80 + 4 * (A 2).toNat + 1) zone) (80 + 4 * (A 2).toNat + 2) power) (80 + 4 * (A 2).toNat + 3) 0) 2 (A 2 + 1)
abbrev ok_summer (zone fr to : Int) : Prop := (0 ≤ zone ∧ zone ≤ 3) ∧ (0 ≤ fr ∧ fr ≤ 199) ∧ (0 ≤ to ∧ to ≤ 199)
def do_summer (A : Nat → Int) (zone fr to : Int) : Nat → Int := ua (ua A (20 + 2 * zone.toNat) fr) (20 + 2 * zone.toNat + 1) to

theorem dX12_isHour_0 : decode cX12_isHour 0 = .ok (.aload_n 0, 1) := by decide +kernel
theorem dX12_isHour_1 : decode cX12_isHour 1 = .ok (.iload_n 1, 1) := by decide +kernel
theorem dX12_isHour_2 : decode cX12_isHour 2 = .ok (.iconst 4, 1) := by decide +kernel
theorem dX12_isHour_3 : decode cX12_isHour 3 = .ok (.invokevirtual 63, 3) := by decide +kernel
theorem dX12_isHour_6 : decode cX12_isHour 6 = .ok (.ifCond .eq 21, 3) := by decide +kernel
theorem dX12_isHour_9 : decode cX12_isHour 9 = .ok (.aload_n 0, 1) := by decide +kernel
theorem dX12_isHour_10 : decode cX12_isHour 10 = .ok (.aload_n 0, 1) := by decide +kernel
theorem dX12_isHour_11 : decode cX12_isHour 11 = .ok (.iload_n 1, 1) := by decide +kernel
theorem dX12_isHour_12 : decode cX12_isHour 12 = .ok (.bipush 7, 2) := by decide +kernel
theorem dX12_isHour_14 : decode cX12_isHour 14 = .ok (.invokevirtual 67, 3) := by decide +kernel
theorem dX12_isHour_17 : decode cX12_isHour 17 = .ok (.invokevirtual 71, 3) := by decide +kernel
theorem dX12_isHour_20 : decode cX12_isHour 20 = .ok (.ifCond .eq 7, 3) := by decide +kernel
theorem dX12_isHour_23 : decode cX12_isHour 23 = .ok (.iconst 1, 1) := by decide +kernel
theorem dX12_isHour_24 : decode cX12_isHour 24 = .ok (.goto 4, 3) := by decide +kernel
theorem dX12_isHour_27 : decode cX12_isHour 27 = .ok (.iconst 0, 1) := by decide +kernel
theorem dX12_isHour_28 : decode cX12_isHour 28 = .ok (.ireturn, 1) := by decide +kernel
set_option maxRecDepth 100000 in
set_option maxHeartbeats 4000000 in
theorem k_isHour (l : Launch) {D : va_G} {cI cZ : ClassId} {a0 : Nat} (σ : Nat → Nat → Int) (h : Int) (hσ : rg σ) (hc : cn (σ 1)) (r_h : inI h) : moM l D cI cZ a0 yX12_isHour cX12_isHour 2 (some .boolean) 2 44 [.ref a0, .int (iz h)] σ (some (.int (iz (xb (decide ((0 ≤ h ∧ h ≤ σ 1 4 - 1) ∧ (σ 1 9 = -1 ∨ σ 1 ((280 + (8 * h.toNat)) + 7) ≤ σ 1 9))))))) (σ) := by
  refine mo_start (by decide) rfl (Nat.le_of_ble_eq_true rfl) ?_
  intro p e s m args below meth c C K hr hlk
  refine hv_aload_n C 0 0 dX12_isHour_0 rfl rfl ?_
  refine hv_iload_n C 1 1 dX12_isHour_1 rfl rfl ?_
  refine hv_iconst C dX12_isHour_2 ?_
  refine mo_call [.int (iz h), .int (iz 4)] [] C K (k_isOf l σ h 4 hσ (by omega) (by omega) (by omega)) ck_isOf (by decide) rfl (Nat.le_of_ble_eq_true rfl) dX12_isHour_3 ?_
  refine hv_dif_eq C 27 dX12_isHour_6 (by decide)  (fun h6 => ?_) (fun h6 => ?_)
  · skip
    refine hv_iconst C dX12_isHour_27 ?_
    exact mo_zret (Qc := fun _ _ _ _ => True) C hr hlk ((xb_f (decide_eq_false (by (try simp only [Int.toNat_natCast] at *); omega))).symm) rfl dX12_isHour_28
  · skip
    obtain ⟨hn, rfl⟩ : ∃ n : Nat, h = (n : Int) := ⟨(h).toNat, by omega⟩
    refine hv_aload_n C 0 0 dX12_isHour_9 rfl rfl ?_
    refine hv_aload_n C 0 0 dX12_isHour_10 rfl rfl ?_
    refine hv_iload_n C 1 1 dX12_isHour_11 rfl rfl ?_
    refine hv_bipush C dX12_isHour_12 (by decide) ?_
    refine mo_call [.int (iz ((hn : Nat) : Int)), .int (iz 7)] [.ref a0] C K (k_hourOf l σ hn 7 (by omega) (by omega)) ck_hourOf (by decide) rfl (Nat.le_of_ble_eq_true rfl) dX12_isHour_14 ?_
    refine hv_nm (fun x1 ex1 => ?_)
    have rx1 : inI x1 := by rw [ex1]; exact hσ _ _
    refine mo_call [.int (iz x1)] [] C K (k_isSeen l σ x1 hσ (by omega)) ck_isSeen (by decide) rfl (Nat.le_of_ble_eq_true rfl) dX12_isHour_17 ?_
    refine hv_dif_eq C 27 dX12_isHour_20 (by decide)  (fun h20 => ?_) (fun h20 => ?_)
    · skip
      refine hv_iconst C dX12_isHour_27 ?_
      exact mo_zret (Qc := fun _ _ _ _ => True) C hr hlk ((xb_f (decide_eq_false (by (try simp only [Int.toNat_natCast] at *); omega))).symm) rfl dX12_isHour_28
    · skip
      refine hv_iconst C dX12_isHour_23 ?_
      refine hv_goto C 28 dX12_isHour_24 (by decide) ?_
      exact mo_zret (Qc := fun _ _ _ _ => True) C hr hlk ((xb_t (decide_eq_true (by (try simp only [Int.toNat_natCast] at *); omega))).symm) rfl dX12_isHour_28
theorem dX12_wire_0 : decode cX12_wire 0 = .ok (.aload_n 0, 1) := by decide +kernel
theorem dX12_wire_1 : decode cX12_wire 1 = .ok (.getfield 7, 3) := by decide +kernel
theorem dX12_wire_4 : decode cX12_wire 4 = .ok (.iconst 1, 1) := by decide +kernel
theorem dX12_wire_5 : decode cX12_wire 5 = .ok (.iaload, 1) := by decide +kernel
theorem dX12_wire_6 : decode cX12_wire 6 = .ok (.bipush 12, 2) := by decide +kernel
theorem dX12_wire_8 : decode cX12_wire 8 = .ok (.if_icmp .eq 47, 3) := by decide +kernel
theorem dX12_wire_11 : decode cX12_wire 11 = .ok (.aload_n 0, 1) := by decide +kernel
theorem dX12_wire_12 : decode cX12_wire 12 = .ok (.iload_n 1, 1) := by decide +kernel
theorem dX12_wire_13 : decode cX12_wire 13 = .ok (.iconst 0, 1) := by decide +kernel
theorem dX12_wire_14 : decode cX12_wire 14 = .ok (.invokevirtual 63, 3) := by decide +kernel
theorem dX12_wire_17 : decode cX12_wire 17 = .ok (.ifCond .eq 38, 3) := by decide +kernel
theorem dX12_wire_20 : decode cX12_wire 20 = .ok (.aload_n 0, 1) := by decide +kernel
theorem dX12_wire_21 : decode cX12_wire 21 = .ok (.iload_n 2, 1) := by decide +kernel
theorem dX12_wire_22 : decode cX12_wire 22 = .ok (.iconst 0, 1) := by decide +kernel
theorem dX12_wire_23 : decode cX12_wire 23 = .ok (.invokevirtual 63, 3) := by decide +kernel
theorem dX12_wire_26 : decode cX12_wire 26 = .ok (.ifCond .eq 29, 3) := by decide +kernel
theorem dX12_wire_29 : decode cX12_wire 29 = .ok (.iload_n 1, 1) := by decide +kernel
theorem dX12_wire_30 : decode cX12_wire 30 = .ok (.iload_n 2, 1) := by decide +kernel
theorem dX12_wire_31 : decode cX12_wire 31 = .ok (.if_icmp .eq 24, 3) := by decide +kernel
theorem dX12_wire_34 : decode cX12_wire 34 = .ok (.iload_n 3, 1) := by decide +kernel
theorem dX12_wire_35 : decode cX12_wire 35 = .ok (.iconst 1, 1) := by decide +kernel
theorem dX12_wire_36 : decode cX12_wire 36 = .ok (.sipush 999, 3) := by decide +kernel
theorem dX12_wire_39 : decode cX12_wire 39 = .ok (.invokestatic 59, 3) := by decide +kernel
theorem dX12_wire_42 : decode cX12_wire 42 = .ok (.ifCond .eq 13, 3) := by decide +kernel
theorem dX12_wire_45 : decode cX12_wire 45 = .ok (.iload 4, 2) := by decide +kernel
theorem dX12_wire_47 : decode cX12_wire 47 = .ok (.iconst 1, 1) := by decide +kernel
theorem dX12_wire_48 : decode cX12_wire 48 = .ok (.iconst 3, 1) := by decide +kernel
theorem dX12_wire_49 : decode cX12_wire 49 = .ok (.invokestatic 59, 3) := by decide +kernel
theorem dX12_wire_52 : decode cX12_wire 52 = .ok (.ifCond .ne 5, 3) := by decide +kernel
theorem dX12_wire_55 : decode cX12_wire 55 = .ok (.iconst (-1), 1) := by decide +kernel
theorem dX12_wire_56 : decode cX12_wire 56 = .ok (.ireturn, 1) := by decide +kernel
theorem dX12_wire_57 : decode cX12_wire 57 = .ok (.bipush 30, 2) := by decide +kernel
theorem dX12_wire_59 : decode cX12_wire 59 = .ok (.iconst 4, 1) := by decide +kernel
theorem dX12_wire_60 : decode cX12_wire 60 = .ok (.aload_n 0, 1) := by decide +kernel
theorem dX12_wire_61 : decode cX12_wire 61 = .ok (.getfield 7, 3) := by decide +kernel
theorem dX12_wire_64 : decode cX12_wire 64 = .ok (.iconst 1, 1) := by decide +kernel
theorem dX12_wire_65 : decode cX12_wire 65 = .ok (.iaload, 1) := by decide +kernel
theorem dX12_wire_66 : decode cX12_wire 66 = .ok (.imul, 1) := by decide +kernel
theorem dX12_wire_67 : decode cX12_wire 67 = .ok (.iadd, 1) := by decide +kernel
theorem dX12_wire_68 : decode cX12_wire 68 = .ok (.istore 5, 2) := by decide +kernel
theorem dX12_wire_70 : decode cX12_wire 70 = .ok (.aload_n 0, 1) := by decide +kernel
theorem dX12_wire_71 : decode cX12_wire 71 = .ok (.getfield 7, 3) := by decide +kernel
theorem dX12_wire_74 : decode cX12_wire 74 = .ok (.iload 5, 2) := by decide +kernel
theorem dX12_wire_76 : decode cX12_wire 76 = .ok (.iload_n 1, 1) := by decide +kernel
theorem dX12_wire_77 : decode cX12_wire 77 = .ok (.iastore, 1) := by decide +kernel
theorem dX12_wire_78 : decode cX12_wire 78 = .ok (.aload_n 0, 1) := by decide +kernel
theorem dX12_wire_79 : decode cX12_wire 79 = .ok (.getfield 7, 3) := by decide +kernel
theorem dX12_wire_82 : decode cX12_wire 82 = .ok (.iload 5, 2) := by decide +kernel
theorem dX12_wire_84 : decode cX12_wire 84 = .ok (.iconst 1, 1) := by decide +kernel
theorem dX12_wire_85 : decode cX12_wire 85 = .ok (.iadd, 1) := by decide +kernel
theorem dX12_wire_86 : decode cX12_wire 86 = .ok (.iload_n 2, 1) := by decide +kernel
theorem dX12_wire_87 : decode cX12_wire 87 = .ok (.iastore, 1) := by decide +kernel
theorem dX12_wire_88 : decode cX12_wire 88 = .ok (.aload_n 0, 1) := by decide +kernel
theorem dX12_wire_89 : decode cX12_wire 89 = .ok (.getfield 7, 3) := by decide +kernel
theorem dX12_wire_92 : decode cX12_wire 92 = .ok (.iload 5, 2) := by decide +kernel
theorem dX12_wire_94 : decode cX12_wire 94 = .ok (.iconst 2, 1) := by decide +kernel
theorem dX12_wire_95 : decode cX12_wire 95 = .ok (.iadd, 1) := by decide +kernel
theorem dX12_wire_96 : decode cX12_wire 96 = .ok (.iload_n 3, 1) := by decide +kernel
theorem dX12_wire_97 : decode cX12_wire 97 = .ok (.iastore, 1) := by decide +kernel
theorem dX12_wire_98 : decode cX12_wire 98 = .ok (.aload_n 0, 1) := by decide +kernel
theorem dX12_wire_99 : decode cX12_wire 99 = .ok (.getfield 7, 3) := by decide +kernel
theorem dX12_wire_102 : decode cX12_wire 102 = .ok (.iload 5, 2) := by decide +kernel
theorem dX12_wire_104 : decode cX12_wire 104 = .ok (.iconst 3, 1) := by decide +kernel
theorem dX12_wire_105 : decode cX12_wire 105 = .ok (.iadd, 1) := by decide +kernel
theorem dX12_wire_106 : decode cX12_wire 106 = .ok (.iload 4, 2) := by decide +kernel
theorem dX12_wire_108 : decode cX12_wire 108 = .ok (.iastore, 1) := by decide +kernel
theorem dX12_wire_109 : decode cX12_wire 109 = .ok (.aload_n 0, 1) := by decide +kernel
theorem dX12_wire_110 : decode cX12_wire 110 = .ok (.getfield 7, 3) := by decide +kernel
theorem dX12_wire_113 : decode cX12_wire 113 = .ok (.iconst 1, 1) := by decide +kernel
theorem dX12_wire_114 : decode cX12_wire 114 = .ok (.dup2, 1) := by decide +kernel
theorem dX12_wire_115 : decode cX12_wire 115 = .ok (.iaload, 1) := by decide +kernel
theorem dX12_wire_116 : decode cX12_wire 116 = .ok (.iconst 1, 1) := by decide +kernel
theorem dX12_wire_117 : decode cX12_wire 117 = .ok (.iadd, 1) := by decide +kernel
theorem dX12_wire_118 : decode cX12_wire 118 = .ok (.iastore, 1) := by decide +kernel
theorem dX12_wire_119 : decode cX12_wire 119 = .ok (.aload_n 0, 1) := by decide +kernel
theorem dX12_wire_120 : decode cX12_wire 120 = .ok (.getfield 7, 3) := by decide +kernel
theorem dX12_wire_123 : decode cX12_wire 123 = .ok (.iconst 1, 1) := by decide +kernel
theorem dX12_wire_124 : decode cX12_wire 124 = .ok (.iaload, 1) := by decide +kernel
theorem dX12_wire_125 : decode cX12_wire 125 = .ok (.iconst 1, 1) := by decide +kernel
theorem dX12_wire_126 : decode cX12_wire 126 = .ok (.isub, 1) := by decide +kernel
theorem dX12_wire_127 : decode cX12_wire 127 = .ok (.ireturn, 1) := by decide +kernel
set_option maxRecDepth 100000 in
set_option maxHeartbeats 4000000 in
theorem k_wire (l : Launch) {D : va_G} {cI cZ : ClassId} {a0 : Nat} (σ : Nat → Nat → Int) (a : Int) (b : Int) (miles : Int) (circuits : Int) (hσ : rg σ) (hc : cn (σ 1)) (r_a : inI a) (r_b : inI b) (r_miles : inI miles) (r_circuits : inI circuits) : moM l D cI cZ a0 yX12_wire cX12_wire 6 (some .int) 2 44 [.ref a0, .int (iz a), .int (iz b), .int (iz miles), .int (iz circuits)] σ (some (.int (iz (if ok_wire (σ 1) a b miles circuits then σ 1 1 else -1)))) (if ok_wire (σ 1) a b miles circuits then sA σ 1 (do_wire (σ 1) a b miles circuits) else σ) := by
  refine mo_start (by decide) rfl (Nat.le_of_ble_eq_true rfl) ?_
  intro p e s m args below meth c C K hr hlk
  refine hv_aload_n C 0 0 dX12_wire_0 rfl rfl ?_
  refine mo_geta C K 0 1 (by decide) rfl mo_hw fl_7 rfl dX12_wire_1 ?_
  refine hv_iconst C dX12_wire_4 ?_
  refine mo_iald C K 1 9040 1 rfl (by omega) (by omega) (by decide) dX12_wire_5 ?_
  refine hv_nm (fun x1 ex1 => ?_)
  have rx1 : inI x1 := by rw [ex1]; exact hσ 1 1
  refine hv_bipush C dX12_wire_6 (by decide) ?_
  refine hv_icmp_eq C 55 dX12_wire_8 (by decide) (by omega) (by omega) (fun h8 => ?_) (fun h8 => ?_)
  · skip
    refine hv_iconst C dX12_wire_55 ?_
    exact mo_iret (Qc := fun _ _ _ _ => True) C hr hlk (by first | exact if_n (by omega) rfl | (refine if_p (by omega) ?_; subst_vars; simp [u2]; try omega)) (by first | exact if_n (by omega) rfl | (refine if_p (by omega) ?_; subst_vars; have hq : (σ 1 1).toNat = n1 := (by omega); simp only [u2_sA, sA_sA, sA_at, do_wire, hq]; congr 2; first | done | (simp [ua]; done) | (simp [ua]; omega))) dX12_wire_56
  · skip
    refine hv_aload_n C 0 0 dX12_wire_11 rfl rfl ?_
    refine hv_iload_n C 1 1 dX12_wire_12 rfl rfl ?_
    refine hv_iconst C dX12_wire_13 ?_
    refine mo_call [.int (iz a), .int (iz 0)] [] C K (k_isOf l σ a 0 hσ (by omega) (by omega) (by omega)) ck_isOf (by decide) rfl (Nat.le_of_ble_eq_true rfl) dX12_wire_14 ?_
    refine hv_dif_eq C 55 dX12_wire_17 (by decide)  (fun h17 => ?_) (fun h17 => ?_)
    · skip
      refine hv_iconst C dX12_wire_55 ?_
      exact mo_iret (Qc := fun _ _ _ _ => True) C hr hlk (by first | exact if_n (by omega) rfl | (refine if_p (by omega) ?_; subst_vars; simp [u2]; try omega)) (by first | exact if_n (by omega) rfl | (refine if_p (by omega) ?_; subst_vars; have hq : (σ 1 1).toNat = n1 := (by omega); simp only [u2_sA, sA_sA, sA_at, do_wire, hq]; congr 2; first | done | (simp [ua]; done) | (simp [ua]; omega))) dX12_wire_56
    · skip
      refine hv_aload_n C 0 0 dX12_wire_20 rfl rfl ?_
      refine hv_iload_n C 2 2 dX12_wire_21 rfl rfl ?_
      refine hv_iconst C dX12_wire_22 ?_
      refine mo_call [.int (iz b), .int (iz 0)] [] C K (k_isOf l σ b 0 hσ (by omega) (by omega) (by omega)) ck_isOf (by decide) rfl (Nat.le_of_ble_eq_true rfl) dX12_wire_23 ?_
      refine hv_dif_eq C 55 dX12_wire_26 (by decide)  (fun h26 => ?_) (fun h26 => ?_)
      · skip
        refine hv_iconst C dX12_wire_55 ?_
        exact mo_iret (Qc := fun _ _ _ _ => True) C hr hlk (by first | exact if_n (by omega) rfl | (refine if_p (by omega) ?_; subst_vars; simp [u2]; try omega)) (by first | exact if_n (by omega) rfl | (refine if_p (by omega) ?_; subst_vars; have hq : (σ 1 1).toNat = n1 := (by omega); simp only [u2_sA, sA_sA, sA_at, do_wire, hq]; congr 2; first | done | (simp [ua]; done) | (simp [ua]; omega))) dX12_wire_56
      · skip
        refine hv_iload_n C 1 1 dX12_wire_29 rfl rfl ?_
        refine hv_iload_n C 2 2 dX12_wire_30 rfl rfl ?_
        refine hv_icmp_eq C 55 dX12_wire_31 (by decide) (by omega) (by omega) (fun h31 => ?_) (fun h31 => ?_)
        · skip
          refine hv_iconst C dX12_wire_55 ?_
          exact mo_iret (Qc := fun _ _ _ _ => True) C hr hlk (by first | exact if_n (by omega) rfl | (refine if_p (by omega) ?_; subst_vars; simp [u2]; try omega)) (by first | exact if_n (by omega) rfl | (refine if_p (by omega) ?_; subst_vars; have hq : (σ 1 1).toNat = n1 := (by omega); simp only [u2_sA, sA_sA, sA_at, do_wire, hq]; congr 2; first | done | (simp [ua]; done) | (simp [ua]; omega))) dX12_wire_56
        · skip
          refine hv_iload_n C 3 3 dX12_wire_34 rfl rfl ?_
          refine hv_iconst C dX12_wire_35 ?_
          refine hv_sipush C dX12_wire_36 (by decide) ?_
          refine mo_callS [.int (iz miles), .int (iz 1), .int (iz 999)] [] C K (k_isIn l σ miles 1 999 (by omega) (by omega) (by omega)) ck_isIn (by decide) rfl (Nat.le_of_ble_eq_true rfl) dX12_wire_39 ?_
          refine hv_dif_eq C 55 dX12_wire_42 (by decide)  (fun h42 => ?_) (fun h42 => ?_)
          · skip
            refine hv_iconst C dX12_wire_55 ?_
            exact mo_iret (Qc := fun _ _ _ _ => True) C hr hlk (by first | exact if_n (by omega) rfl | (refine if_p (by omega) ?_; subst_vars; simp [u2]; try omega)) (by first | exact if_n (by omega) rfl | (refine if_p (by omega) ?_; subst_vars; have hq : (σ 1 1).toNat = n1 := (by omega); simp only [u2_sA, sA_sA, sA_at, do_wire, hq]; congr 2; first | done | (simp [ua]; done) | (simp [ua]; omega))) dX12_wire_56
          · skip
            refine hv_iload C 4 4 dX12_wire_45 rfl ?_
            refine hv_iconst C dX12_wire_47 ?_
            refine hv_iconst C dX12_wire_48 ?_
            refine mo_callS [.int (iz circuits), .int (iz 1), .int (iz 3)] [] C K (k_isIn l σ circuits 1 3 (by omega) (by omega) (by omega)) ck_isIn (by decide) rfl (Nat.le_of_ble_eq_true rfl) dX12_wire_49 ?_
            refine hv_dif_ne C 57 dX12_wire_52 (by decide)  (fun h52 => ?_) (fun h52 => ?_)
            · skip
              refine hv_bipush C dX12_wire_57 (by decide) ?_
              refine hv_iconst C dX12_wire_59 ?_
              refine hv_aload_n C 0 0 dX12_wire_60 rfl rfl ?_
              refine mo_geta C K 0 1 (by decide) rfl mo_hw fl_7 rfl dX12_wire_61 ?_
              refine hv_iconst C dX12_wire_64 ?_
              refine mo_iald C K 1 9040 1 rfl (by omega) (by omega) (by decide) dX12_wire_65 ?_
              refine hv_nm (fun x2 ex2 => ?_)
              have rx2 : inI x2 := by rw [ex2]; exact hσ 1 1
              obtain ⟨n1, rfl⟩ : ∃ n : Nat, x2 = (n : Int) := ⟨(x2).toNat, by omega⟩
              refine hv_imul C dX12_wire_66 ?_
              refine hv_iadd C dX12_wire_67 ?_
              refine hv_istore C 5 [(5, .int (iz (30 + (4 * ((n1 : Nat) : Int))))), (0, .ref a0), (1, .int (iz a)), (2, .int (iz b)), (3, .int (iz miles)), (4, .int (iz circuits))] dX12_wire_68 (by decide) rfl ?_
              refine hv_aload_n C 0 1 dX12_wire_70 rfl rfl ?_
              refine mo_geta C K 0 1 (by decide) rfl mo_hw fl_7 rfl dX12_wire_71 ?_
              refine hv_iload C 5 0 dX12_wire_74 rfl ?_
              refine hv_iload_n C 1 2 dX12_wire_76 rfl rfl ?_
              refine mo_iast C K 1 9040 (30 + (4 * n1)) rfl (moW_set1 _ _ _ _ _ _) (by omega) (by omega) (by decide) dX12_wire_77 ?_
              refine hv_aload_n C 0 1 dX12_wire_78 rfl rfl ?_
              refine mo_geta C K 0 1 (by decide) rfl mo_hw fl_7 rfl dX12_wire_79 ?_
              refine hv_iload C 5 0 dX12_wire_82 rfl ?_
              refine hv_iconst C dX12_wire_84 ?_
              refine hv_iadd C dX12_wire_85 ?_
              refine hv_iload_n C 2 3 dX12_wire_86 rfl rfl ?_
              refine mo_iast C K 1 9040 ((30 + (4 * n1)) + 1) rfl (moW_set1 _ _ _ _ _ _) (by omega) (by omega) (by decide) dX12_wire_87 ?_
              refine hv_aload_n C 0 1 dX12_wire_88 rfl rfl ?_
              refine mo_geta C K 0 1 (by decide) rfl mo_hw fl_7 rfl dX12_wire_89 ?_
              refine hv_iload C 5 0 dX12_wire_92 rfl ?_
              refine hv_iconst C dX12_wire_94 ?_
              refine hv_iadd C dX12_wire_95 ?_
              refine hv_iload_n C 3 4 dX12_wire_96 rfl rfl ?_
              refine mo_iast C K 1 9040 ((30 + (4 * n1)) + 2) rfl (moW_set1 _ _ _ _ _ _) (by omega) (by omega) (by decide) dX12_wire_97 ?_
              refine hv_aload_n C 0 1 dX12_wire_98 rfl rfl ?_
              refine mo_geta C K 0 1 (by decide) rfl mo_hw fl_7 rfl dX12_wire_99 ?_
              refine hv_iload C 5 0 dX12_wire_102 rfl ?_
              refine hv_iconst C dX12_wire_104 ?_
              refine hv_iadd C dX12_wire_105 ?_
              refine hv_iload C 4 5 dX12_wire_106 rfl ?_
              refine mo_iast C K 1 9040 ((30 + (4 * n1)) + 3) rfl (moW_set1 _ _ _ _ _ _) (by omega) (by omega) (by decide) dX12_wire_108 ?_
              refine hv_aload_n C 0 1 dX12_wire_109 rfl rfl ?_
              refine mo_geta C K 0 1 (by decide) rfl mo_hw fl_7 rfl dX12_wire_110 ?_
              refine hv_iconst C dX12_wire_113 ?_
              refine hv_dup2 C dX12_wire_114 rfl rfl ?_
              refine mo_iald C K 1 9040 1 rfl (by omega) (by omega) (by decide) dX12_wire_115 ?_
              refine hv_nm (fun x3 ex3 => ?_)
              refine hv_iconst C dX12_wire_116 ?_
              refine hv_iadd C dX12_wire_117 ?_
              refine mo_iast C K 1 9040 1 rfl (moW_set1 _ _ _ _ _ _) (by omega) (by omega) (by decide) dX12_wire_118 ?_
              refine hv_aload_n C 0 1 dX12_wire_119 rfl rfl ?_
              refine mo_geta C K 0 1 (by decide) rfl mo_hw fl_7 rfl dX12_wire_120 ?_
              refine hv_iconst C dX12_wire_123 ?_
              refine mo_iald C K 1 9040 1 rfl (by omega) (by omega) (by decide) dX12_wire_124 ?_
              refine hv_nm (fun x4 ex4 => ?_)
              refine hv_iconst C dX12_wire_125 ?_
              refine hv_isub C dX12_wire_126 ?_
              exact mo_iret (Qc := fun _ _ _ _ => True) C hr hlk (by first | exact if_n (by omega) rfl | (refine if_p (by omega) ?_; subst_vars; simp [u2]; try omega)) (by first | exact if_n (by omega) rfl | (refine if_p (by omega) ?_; subst_vars; have hq : (σ 1 1).toNat = n1 := (by omega); simp only [u2_sA, sA_sA, sA_at, do_wire, hq]; congr 2; first | done | (simp [ua]; done) | (simp [ua]; omega))) dX12_wire_127
            · skip
              refine hv_iconst C dX12_wire_55 ?_
              exact mo_iret (Qc := fun _ _ _ _ => True) C hr hlk (by first | exact if_n (by omega) rfl | (refine if_p (by omega) ?_; subst_vars; simp [u2]; try omega)) (by first | exact if_n (by omega) rfl | (refine if_p (by omega) ?_; subst_vars; have hq : (σ 1 1).toNat = n1 := (by omega); simp only [u2_sA, sA_sA, sA_at, do_wire, hq]; congr 2; first | done | (simp [ua]; done) | (simp [ua]; omega))) dX12_wire_56
