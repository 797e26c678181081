/-! the state as one row of numbers: A = what 'all' holds -/
def ua (A : Nat → Int) (i : Nat) (v : Int) : Nat → Int := fun k => if k = i then v else A k
def sA (σ : Nat → Nat → Int) (j : Nat) (A : Nat → Int) : Nat → Nat → Int := fun x => if x = j then A else σ x
theorem u2_sA (σ : Nat → Nat → Int) (j i : Nat) (v : Int) : u2 σ j i v = sA σ j (ua (σ j) i v) := rfl
theorem sA_sA (σ : Nat → Nat → Int) (j : Nat) (A B : Nat → Int) : sA (sA σ j A) j B = sA σ j B := by funext x; simp only [sA]; split <;> rfl
theorem sA_at (σ : Nat → Nat → Int) (j : Nat) (A : Nat → Int) : sA σ j A j = A := by simp [sA]
theorem sA_ne (σ : Nat → Nat → Int) {j k : Nat} (A : Nat → Int) (h : k ≠ j) : sA σ j A k = σ k := by simp [sA, h]
theorem ua_at (A : Nat → Int) (i : Nat) (v : Int) : ua A i v i = v := by simp [ua]
theorem ua_ne (A : Nat → Int) {i k : Nat} (v : Int) (h : k ≠ i) : ua A i v k = A k := by simp [ua, h]
theorem if_p {P : Prop} [Decidable P] {α : Type} {a b c : α} (h : P) (e : c = a) : c = if P then a else b := by rw [if_pos h, e]
theorem if_n {P : Prop} [Decidable P] {α : Type} {a b c : α} (h : ¬ P) (e : c = b) : c = if P then a else b := by rw [if_neg h, e]
/-- how many of each there may be, and the other small numbers -/
abbrev cn (A : Nat → Int) : Prop := (0 ≤ A 0 ∧ A 0 ≤ 8) ∧ (0 ≤ A 1 ∧ A 1 ≤ 12) ∧ (0 ≤ A 2 ∧ A 2 ≤ 8) ∧ (0 ≤ A 3 ∧ A 3 ≤ 40) ∧ (0 ≤ A 4 ∧ A 4 ≤ 24) ∧ (0 ≤ A 5 ∧ A 5 ≤ 24) ∧ (0 ≤ A 6 ∧ A 6 ≤ 40) ∧ (0 ≤ A 7 ∧ A 7 ≤ 6) ∧ (0 ≤ A 8 ∧ A 8 ≤ 199) ∧ (-1 ≤ A 9 ∧ A 9 ≤ 199) ∧ (0 ≤ A 10 ∧ A 10 ≤ 500) ∧ (1 ≤ A 13 ∧ A 13 ≤ 3)
abbrev ok_wire (A : Nat → Int) (a b miles circuits : Int) : Prop := ¬ A 1 = 12 ∧ (0 ≤ a ∧ a ≤ A 0 - 1) ∧ (0 ≤ b ∧ b ≤ A 0 - 1) ∧ ¬ a = b ∧ (1 ≤ miles ∧ miles ≤ 999) ∧ (1 ≤ circuits ∧ circuits ≤ 3)
def do_wire (A : Nat → Int) (a b miles circuits : Int) : Nat → Int := ua (ua (ua (ua (ua A (30 + 4 * (A 1).toNat) a) (30 + 4 * (A 1).toNat + 1) b) (30 + 4 * (A 1).toNat + 2) miles) (30 + 4 * (A 1).toNat + 3) circuits) 1 (A 1 + 1)
abbrev ok_station (A : Nat → Int) (town zone power : Int) : Prop := ¬ A 2 = 8 ∧ (0 ≤ town ∧ town ≤ A 0 - 1) ∧ (0 ≤ zone ∧ zone ≤ 3) ∧ (1 ≤ power ∧ power ≤ 99)
def do_station (A : Nat → Int) (town zone power : Int) : Nat → Int := ua (ua (ua (ua (ua A (80 + 4 * (A 2).toNat) town) (80 + 4 * (A 2).toNat + 1) zone) (80 + 4 * (A 2).toNat + 2) power) (80 + 4 * (A 2).toNat + 3) 0) 2 (A 2 + 1)
abbrev ok_summer (zone fr to : Int) : Prop := (0 ≤ zone ∧ zone ≤ 3) ∧ (0 ≤ fr ∧ fr ≤ 199) ∧ (0 ≤ to ∧ to ≤ 199)
def lo (A : Nat → Int) (zone : Nat) (day slot : Int) : Int := 48 * day + slot - 2 * (zone : Int) + (if A (20 + 2 * zone) ≤ day ∧ day ≤ A (20 + 2 * zone + 1) then 2 else 0)
abbrev ok_join (A : Nat → Int) (station network fr : Int) : Prop := ¬ A 3 = 40 ∧ (0 ≤ station ∧ station ≤ A 2 - 1) ∧ (-1 ≤ network ∧ network ≤ 2) ∧ (0 ≤ fr ∧ fr ≤ 199)
def do_join (A : Nat → Int) (station network fr : Int) : Nat → Int := ua (ua (ua (ua (ua A (120 + 4 * (A 3).toNat) station) (120 + 4 * (A 3).toNat + 1) network) (120 + 4 * (A 3).toNat + 2) fr) (120 + 4 * (A 3).toNat + 3) (A 8)) 3 (A 3 + 1)
abbrev ok_cut (A : Nat → Int) (station day fr to rank : Int) : Prop := ¬ A 5 = 24 ∧ (station = -1 ∨ (0 ≤ station ∧ station ≤ A 2 - 1)) ∧ (0 ≤ day ∧ day ≤ 199) ∧ (0 ≤ fr ∧ fr ≤ 47) ∧ (fr ≤ to ∧ to ≤ 47) ∧ (0 ≤ rank ∧ rank ≤ 9)
def do_cut (A : Nat → Int) (station day fr to rank : Int) : Nat → Int := ua (ua (ua (ua (ua (ua (ua A (480 + 6 * (A 5).toNat) station) (480 + 6 * (A 5).toNat + 1) day) (480 + 6 * (A 5).toNat + 2) fr) (480 + 6 * (A 5).toNat + 3) to) (480 + 6 * (A 5).toNat + 4) rank) (480 + 6 * (A 5).toNat + 5) (A 8)) 5 (A 5 + 1)
abbrev ok_calls (A : Nat → Int) (station called heard : Int) : Prop := ¬ A 6 = 40 ∧ (0 ≤ station ∧ station ≤ A 2 - 1) ∧ (1 ≤ called ∧ called ≤ 999) ∧ (0 ≤ heard ∧ heard ≤ called)
def do_calls (A : Nat → Int) (station called heard : Int) : Nat → Int := ua (ua (ua (ua A (630 + 3 * (A 6).toNat) station) (630 + 3 * (A 6).toNat + 1) called) (630 + 3 * (A 6).toNat + 2) heard) 6 (A 6 + 1)
def la (A : Nat → Int) (h k what : Nat) : Int := A (800 + 320 * (A (280 + 8 * h)).toNat + 20 * k + what)
/-- what the hours hold -/
def hi (A : Nat → Int) : Prop := ∀ h : Nat, (h : Int) < A 4 → (0 ≤ A (280 + 8 * h + 0) ∧ A (280 + 8 * h + 0) ≤ 2) ∧ (0 ≤ A (280 + 8 * h + 1) ∧ A (280 + 8 * h + 1) ≤ 199) ∧ (0 ≤ A (280 + 8 * h + 2) ∧ A (280 + 8 * h + 2) + A (280 + 8 * h + 3) ≤ 48) ∧ (1 ≤ A (280 + 8 * h + 3) ∧ A (280 + 8 * h + 3) ≤ 4) ∧ (0 ≤ A (280 + 8 * h + 4) ∧ A (280 + 8 * h + 4) ≤ A 0 - 1) ∧ (0 ≤ A (280 + 8 * h + 5) ∧ A (280 + 8 * h + 5) ≤ 7) ∧ (0 ≤ A (280 + 8 * h + 6) ∧ A (280 + 8 * h + 6) ≤ 255) ∧ (0 ≤ A (280 + 8 * h + 7) ∧ A (280 + 8 * h + 7) ≤ 199)
def ci (A : Nat → Int) : Prop := ∀ k : Nat, (k : Int) < A 6 → (0 ≤ A (630 + 3 * k) ∧ A (630 + 3 * k) ≤ 7) ∧ (1 ≤ A (630 + 3 * k + 1) ∧ A (630 + 3 * k + 1) ≤ 999) ∧ (0 ≤ A (630 + 3 * k + 2) ∧ A (630 + 3 * k + 2) ≤ A (630 + 3 * k + 1))
def do_summer (A : Nat → Int) (zone fr to : Int) : Nat → Int := ua (ua A (20 + 2 * zone.toNat) fr) (20 + 2 * zone.toNat + 1) to

theorem dX12_isHour_0 : decode cX12_isHour 0 = .ok (.aload_n 0, 1) := by decide +kernel
theorem dX12_isHour_1 : decode cX12_isHour 1 = .ok (.iload_n 1, 1) := by decide +kernel
theorem dX12_isHour_2 : decode cX12_isHour 2 = .ok (.iconst 4, 1) := by decide +kernel
theorem dX12_isHour_3 : decode cX12_isHour 3 = .ok (.invokevirtual 63, 3) := by decide +kernel
theorem dX12_isHour_6 : decode cX12_isHour 6 = .ok (.ifCond .eq 21, 3) := by decide +kernel
theorem dX12_isHour_9 : decode cX12_isHour 9 = .ok (.aload_n 0, 1) := by decide +kernel
theorem dX12_isHour_10 : decode cX12_isHour 10 = .ok (.aload_n 0, 1) := by decide +kernel
theorem dX12_isHour_11 : decode cX12_isHour 11 = .ok (.iload_n 1, 1) := by decide +kernel
theorem dX12_isHour_12 : decode cX12_isHour 12 = .ok (.bipush 7, 2) := by decide +kernel
theorem dX12_isHour_14 : decode cX12_isHour 14 = .ok (.invokevirtual 67, 3) := by decide +kernel
theorem dX12_isHour_17 : decode cX12_isHour 17 = .ok (.invokevirtual 71, 3) := by decide +kernel
theorem dX12_isHour_20 : decode cX12_isHour 20 = .ok (.ifCond .eq 7, 3) := by decide +kernel
theorem dX12_isHour_23 : decode cX12_isHour 23 = .ok (.iconst 1, 1) := by decide +kernel
theorem dX12_isHour_24 : decode cX12_isHour 24 = .ok (.goto 4, 3) := by decide +kernel
theorem dX12_isHour_27 : decode cX12_isHour 27 = .ok (.iconst 0, 1) := by decide +kernel
theorem dX12_isHour_28 : decode cX12_isHour 28 = .ok (.ireturn, 1) := by decide +kernel
set_option maxRecDepth 100000 in
set_option maxHeartbeats 4000000 in
theorem k_isHour (l : Launch) {D : va_G} {cI cZ : ClassId} {a0 : Nat} (σ : Nat → Nat → Int) (h : Int) (hσ : rg σ) (hc : cn (σ 1)) (r_h : inI h) : moM l D cI cZ a0 yX12_isHour cX12_isHour 2 (some .boolean) 2 44 [.ref a0, .int (iz h)] σ (some (.int (iz (xb (decide ((0 ≤ h ∧ h ≤ σ 1 4 - 1) ∧ (σ 1 9 = -1 ∨ σ 1 ((280 + (8 * h.toNat)) + 7) ≤ σ 1 9))))))) (σ) := by
  refine mo_start (by decide) rfl (Nat.le_of_ble_eq_true rfl) ?_
  intro p e s m args below meth c C K hr hlk
  refine hv_aload_n C 0 0 dX12_isHour_0 rfl rfl ?_
  refine hv_iload_n C 1 1 dX12_isHour_1 rfl rfl ?_
  refine hv_iconst C dX12_isHour_2 ?_
  refine mo_call [.int (iz h), .int (iz 4)] [] C K (k_isOf l σ h 4 hσ (by omega) (by omega) (by omega)) ck_isOf (by decide) rfl (Nat.le_of_ble_eq_true rfl) dX12_isHour_3 ?_
  refine hv_dif_eq C 27 dX12_isHour_6 (by decide)  (fun h6 => ?_) (fun h6 => ?_)
  · skip
    refine hv_iconst C dX12_isHour_27 ?_
    exact mo_zret (Qc := fun _ _ _ _ => True) C hr hlk ((xb_f (decide_eq_false (by (try simp only [Int.toNat_natCast] at *); omega))).symm) rfl dX12_isHour_28
  · skip
    obtain ⟨hn, rfl⟩ : ∃ n : Nat, h = (n : Int) := ⟨(h).toNat, by omega⟩
    refine hv_aload_n C 0 0 dX12_isHour_9 rfl rfl ?_
    refine hv_aload_n C 0 0 dX12_isHour_10 rfl rfl ?_
    refine hv_iload_n C 1 1 dX12_isHour_11 rfl rfl ?_
    refine hv_bipush C dX12_isHour_12 (by decide) ?_
    refine mo_call [.int (iz ((hn : Nat) : Int)), .int (iz 7)] [.ref a0] C K (k_hourOf l σ hn 7 (by omega) (by omega)) ck_hourOf (by decide) rfl (Nat.le_of_ble_eq_true rfl) dX12_isHour_14 ?_
    refine hv_nm (fun x1 ex1 => ?_)
    have rx1 : inI x1 := by rw [ex1]; exact hσ _ _
    refine mo_call [.int (iz x1)] [] C K (k_isSeen l σ x1 hσ (by omega)) ck_isSeen (by decide) rfl (Nat.le_of_ble_eq_true rfl) dX12_isHour_17 ?_
    refine hv_dif_eq C 27 dX12_isHour_20 (by decide)  (fun h20 => ?_) (fun h20 => ?_)
    · skip
      refine hv_iconst C dX12_isHour_27 ?_
      exact mo_zret (Qc := fun _ _ _ _ => True) C hr hlk ((xb_f (decide_eq_false (by (try simp only [Int.toNat_natCast] at *); omega))).symm) rfl dX12_isHour_28
    · skip
      refine hv_iconst C dX12_isHour_23 ?_
      refine hv_goto C 28 dX12_isHour_24 (by decide) ?_
      exact mo_zret (Qc := fun _ _ _ _ => True) C hr hlk ((xb_t (decide_eq_true (by (try simp only [Int.toNat_natCast] at *); omega))).symm) rfl dX12_isHour_28
theorem dX12_wire_0 : decode cX12_wire 0 = .ok (.aload_n 0, 1) := by decide +kernel
theorem dX12_wire_1 : decode cX12_wire 1 = .ok (.getfield 7, 3) := by decide +kernel
theorem dX12_wire_4 : decode cX12_wire 4 = .ok (.iconst 1, 1) := by decide +kernel
theorem dX12_wire_5 : decode cX12_wire 5 = .ok (.iaload, 1) := by decide +kernel
theorem dX12_wire_6 : decode cX12_wire 6 = .ok (.bipush 12, 2) := by decide +kernel
theorem dX12_wire_8 : decode cX12_wire 8 = .ok (.if_icmp .eq 47, 3) := by decide +kernel
theorem dX12_wire_11 : decode cX12_wire 11 = .ok (.aload_n 0, 1) := by decide +kernel
theorem dX12_wire_12 : decode cX12_wire 12 = .ok (.iload_n 1, 1) := by decide +kernel
theorem dX12_wire_13 : decode cX12_wire 13 = .ok (.iconst 0, 1) := by decide +kernel
theorem dX12_wire_14 : decode cX12_wire 14 = .ok (.invokevirtual 63, 3) := by decide +kernel
theorem dX12_wire_17 : decode cX12_wire 17 = .ok (.ifCond .eq 38, 3) := by decide +kernel
theorem dX12_wire_20 : decode cX12_wire 20 = .ok (.aload_n 0, 1) := by decide +kernel
theorem dX12_wire_21 : decode cX12_wire 21 = .ok (.iload_n 2, 1) := by decide +kernel
theorem dX12_wire_22 : decode cX12_wire 22 = .ok (.iconst 0, 1) := by decide +kernel
theorem dX12_wire_23 : decode cX12_wire 23 = .ok (.invokevirtual 63, 3) := by decide +kernel
theorem dX12_wire_26 : decode cX12_wire 26 = .ok (.ifCond .eq 29, 3) := by decide +kernel
theorem dX12_wire_29 : decode cX12_wire 29 = .ok (.iload_n 1, 1) := by decide +kernel
theorem dX12_wire_30 : decode cX12_wire 30 = .ok (.iload_n 2, 1) := by decide +kernel
theorem dX12_wire_31 : decode cX12_wire 31 = .ok (.if_icmp .eq 24, 3) := by decide +kernel
theorem dX12_wire_34 : decode cX12_wire 34 = .ok (.iload_n 3, 1) := by decide +kernel
theorem dX12_wire_35 : decode cX12_wire 35 = .ok (.iconst 1, 1) := by decide +kernel
theorem dX12_wire_36 : decode cX12_wire 36 = .ok (.sipush 999, 3) := by decide +kernel
theorem dX12_wire_39 : decode cX12_wire 39 = .ok (.invokestatic 59, 3) := by decide +kernel
theorem dX12_wire_42 : decode cX12_wire 42 = .ok (.ifCond .eq 13, 3) := by decide +kernel
theorem dX12_wire_45 : decode cX12_wire 45 = .ok (.iload 4, 2) := by decide +kernel
theorem dX12_wire_47 : decode cX12_wire 47 = .ok (.iconst 1, 1) := by decide +kernel
theorem dX12_wire_48 : decode cX12_wire 48 = .ok (.iconst 3, 1) := by decide +kernel
theorem dX12_wire_49 : decode cX12_wire 49 = .ok (.invokestatic 59, 3) := by decide +kernel
theorem dX12_wire_52 : decode cX12_wire 52 = .ok (.ifCond .ne 5, 3) := by decide +kernel
theorem dX12_wire_55 : decode cX12_wire 55 = .ok (.iconst (-1), 1) := by decide +kernel
theorem dX12_wire_56 : decode cX12_wire 56 = .ok (.ireturn, 1) := by decide +kernel
theorem dX12_wire_57 : decode cX12_wire 57 = .ok (.bipush 30, 2) := by decide +kernel
theorem dX12_wire_59 : decode cX12_wire 59 = .ok (.iconst 4, 1) := by decide +kernel
theorem dX12_wire_60 : decode cX12_wire 60 = .ok (.aload_n 0, 1) := by decide +kernel
theorem dX12_wire_61 : decode cX12_wire 61 = .ok (.getfield 7, 3) := by decide +kernel
theorem dX12_wire_64 : decode cX12_wire 64 = .ok (.iconst 1, 1) := by decide +kernel
theorem dX12_wire_65 : decode cX12_wire 65 = .ok (.iaload, 1) := by decide +kernel
theorem dX12_wire_66 : decode cX12_wire 66 = .ok (.imul, 1) := by decide +kernel
theorem dX12_wire_67 : decode cX12_wire 67 = .ok (.iadd, 1) := by decide +kernel
theorem dX12_wire_68 : decode cX12_wire 68 = .ok (.istore 5, 2) := by decide +kernel
theorem dX12_wire_70 : decode cX12_wire 70 = .ok (.aload_n 0, 1) := by decide +kernel
theorem dX12_wire_71 : decode cX12_wire 71 = .ok (.getfield 7, 3) := by decide +kernel
theorem dX12_wire_74 : decode cX12_wire 74 = .ok (.iload 5, 2) := by decide +kernel
theorem dX12_wire_76 : decode cX12_wire 76 = .ok (.iload_n 1, 1) := by decide +kernel
theorem dX12_wire_77 : decode cX12_wire 77 = .ok (.iastore, 1) := by decide +kernel
theorem dX12_wire_78 : decode cX12_wire 78 = .ok (.aload_n 0, 1) := by decide +kernel
theorem dX12_wire_79 : decode cX12_wire 79 = .ok (.getfield 7, 3) := by decide +kernel
theorem dX12_wire_82 : decode cX12_wire 82 = .ok (.iload 5, 2) := by decide +kernel
theorem dX12_wire_84 : decode cX12_wire 84 = .ok (.iconst 1, 1) := by decide +kernel
theorem dX12_wire_85 : decode cX12_wire 85 = .ok (.iadd, 1) := by decide +kernel
theorem dX12_wire_86 : decode cX12_wire 86 = .ok (.iload_n 2, 1) := by decide +kernel
theorem dX12_wire_87 : decode cX12_wire 87 = .ok (.iastore, 1) := by decide +kernel
theorem dX12_wire_88 : decode cX12_wire 88 = .ok (.aload_n 0, 1) := by decide +kernel
theorem dX12_wire_89 : decode cX12_wire 89 = .ok (.getfield 7, 3) := by decide +kernel
theorem dX12_wire_92 : decode cX12_wire 92 = .ok (.iload 5, 2) := by decide +kernel
theorem dX12_wire_94 : decode cX12_wire 94 = .ok (.iconst 2, 1) := by decide +kernel
theorem dX12_wire_95 : decode cX12_wire 95 = .ok (.iadd, 1) := by decide +kernel
theorem dX12_wire_96 : decode cX12_wire 96 = .ok (.iload_n 3, 1) := by decide +kernel
theorem dX12_wire_97 : decode cX12_wire 97 = .ok (.iastore, 1) := by decide +kernel
theorem dX12_wire_98 : decode cX12_wire 98 = .ok (.aload_n 0, 1) := by decide +kernel
theorem dX12_wire_99 : decode cX12_wire 99 = .ok (.getfield 7, 3) := by decide +kernel
theorem dX12_wire_102 : decode cX12_wire 102 = .ok (.iload 5, 2) := by decide +kernel
theorem dX12_wire_104 : decode cX12_wire 104 = .ok (.iconst 3, 1) := by decide +kernel
theorem dX12_wire_105 : decode cX12_wire 105 = .ok (.iadd, 1) := by decide +kernel
theorem dX12_wire_106 : decode cX12_wire 106 = .ok (.iload 4, 2) := by decide +kernel
theorem dX12_wire_108 : decode cX12_wire 108 = .ok (.iastore, 1) := by decide +kernel
theorem dX12_wire_109 : decode cX12_wire 109 = .ok (.aload_n 0, 1) := by decide +kernel
theorem dX12_wire_110 : decode cX12_wire 110 = .ok (.getfield 7, 3) := by decide +kernel
theorem dX12_wire_113 : decode cX12_wire 113 = .ok (.iconst 1, 1) := by decide +kernel
theorem dX12_wire_114 : decode cX12_wire 114 = .ok (.dup2, 1) := by decide +kernel
theorem dX12_wire_115 : decode cX12_wire 115 = .ok (.iaload, 1) := by decide +kernel
theorem dX12_wire_116 : decode cX12_wire 116 = .ok (.iconst 1, 1) := by decide +kernel
theorem dX12_wire_117 : decode cX12_wire 117 = .ok (.iadd, 1) := by decide +kernel
theorem dX12_wire_118 : decode cX12_wire 118 = .ok (.iastore, 1) := by decide +kernel
theorem dX12_wire_119 : decode cX12_wire 119 = .ok (.aload_n 0, 1) := by decide +kernel
theorem dX12_wire_120 : decode cX12_wire 120 = .ok (.getfield 7, 3) := by decide +kernel
theorem dX12_wire_123 : decode cX12_wire 123 = .ok (.iconst 1, 1) := by decide +kernel
theorem dX12_wire_124 : decode cX12_wire 124 = .ok (.iaload, 1) := by decide +kernel
theorem dX12_wire_125 : decode cX12_wire 125 = .ok (.iconst 1, 1) := by decide +kernel
theorem dX12_wire_126 : decode cX12_wire 126 = .ok (.isub, 1) := by decide +kernel
theorem dX12_wire_127 : decode cX12_wire 127 = .ok (.ireturn, 1) := by decide +kernel
set_option maxRecDepth 100000 in
set_option maxHeartbeats 4000000 in
theorem k_wire (l : Launch) {D : va_G} {cI cZ : ClassId} {a0 : Nat} (σ : Nat → Nat → Int) (a : Int) (b : Int) (miles : Int) (circuits : Int) (hσ : rg σ) (hc : cn (σ 1)) (r_a : inI a) (r_b : inI b) (r_miles : inI miles) (r_circuits : inI circuits) : moM l D cI cZ a0 yX12_wire cX12_wire 6 (some .int) 2 44 [.ref a0, .int (iz a), .int (iz b), .int (iz miles), .int (iz circuits)] σ (some (.int (iz (if ok_wire (σ 1) a b miles circuits then σ 1 1 else -1)))) (if ok_wire (σ 1) a b miles circuits then sA σ 1 (do_wire (σ 1) a b miles circuits) else σ) := by
  refine mo_start (by decide) rfl (Nat.le_of_ble_eq_true rfl) ?_
  intro p e s m args below meth c C K hr hlk
  refine hv_aload_n C 0 0 dX12_wire_0 rfl rfl ?_
  refine mo_geta C K 0 1 (by decide) rfl mo_hw fl_7 rfl dX12_wire_1 ?_
  refine hv_iconst C dX12_wire_4 ?_
  refine mo_iald C K 1 9040 1 rfl (by omega) (by omega) (by decide) dX12_wire_5 ?_
  refine hv_nm (fun x1 ex1 => ?_)
  have rx1 : inI x1 := by rw [ex1]; exact hσ 1 1
  refine hv_bipush C dX12_wire_6 (by decide) ?_
  refine hv_icmp_eq C 55 dX12_wire_8 (by decide) (by omega) (by omega) (fun h8 => ?_) (fun h8 => ?_)
  · skip
    refine hv_iconst C dX12_wire_55 ?_
    exact mo_iret (Qc := fun _ _ _ _ => True) C hr hlk (by first | exact if_n (by omega) rfl | (refine if_p (by omega) ?_; subst_vars; simp [u2]; try omega)) (by first | exact if_n (by omega) rfl | (refine if_p (by omega) ?_; subst_vars; have hq : (σ 1 1).toNat = n1 := (by omega); simp only [u2_sA, sA_sA, sA_at, do_wire, hq]; congr 2 <;> first | rfl | (simp [ua]; omega) | (congr 1; simp [ua]; omega))) dX12_wire_56
  · skip
    refine hv_aload_n C 0 0 dX12_wire_11 rfl rfl ?_
    refine hv_iload_n C 1 1 dX12_wire_12 rfl rfl ?_
    refine hv_iconst C dX12_wire_13 ?_
    refine mo_call [.int (iz a), .int (iz 0)] [] C K (k_isOf l σ a 0 hσ (by omega) (by omega) (by omega)) ck_isOf (by decide) rfl (Nat.le_of_ble_eq_true rfl) dX12_wire_14 ?_
    refine hv_dif_eq C 55 dX12_wire_17 (by decide)  (fun h17 => ?_) (fun h17 => ?_)
    · skip
      refine hv_iconst C dX12_wire_55 ?_
      exact mo_iret (Qc := fun _ _ _ _ => True) C hr hlk (by first | exact if_n (by omega) rfl | (refine if_p (by omega) ?_; subst_vars; simp [u2]; try omega)) (by first | exact if_n (by omega) rfl | (refine if_p (by omega) ?_; subst_vars; have hq : (σ 1 1).toNat = n1 := (by omega); simp only [u2_sA, sA_sA, sA_at, do_wire, hq]; congr 2 <;> first | rfl | (simp [ua]; omega) | (congr 1; simp [ua]; omega))) dX12_wire_56
    · skip
      refine hv_aload_n C 0 0 dX12_wire_20 rfl rfl ?_
      refine hv_iload_n C 2 2 dX12_wire_21 rfl rfl ?_
      refine hv_iconst C dX12_wire_22 ?_
      refine mo_call [.int (iz b), .int (iz 0)] [] C K (k_isOf l σ b 0 hσ (by omega) (by omega) (by omega)) ck_isOf (by decide) rfl (Nat.le_of_ble_eq_true rfl) dX12_wire_23 ?_
      refine hv_dif_eq C 55 dX12_wire_26 (by decide)  (fun h26 => ?_) (fun h26 => ?_)
      · skip
        refine hv_iconst C dX12_wire_55 ?_
        exact mo_iret (Qc := fun _ _ _ _ => True) C hr hlk (by first | exact if_n (by omega) rfl | (refine if_p (by omega) ?_; subst_vars; simp [u2]; try omega)) (by first | exact if_n (by omega) rfl | (refine if_p (by omega) ?_; subst_vars; have hq : (σ 1 1).toNat = n1 := (by omega); simp only [u2_sA, sA_sA, sA_at, do_wire, hq]; congr 2 <;> first | rfl | (simp [ua]; omega) | (congr 1; simp [ua]; omega))) dX12_wire_56
      · skip
        refine hv_iload_n C 1 1 dX12_wire_29 rfl rfl ?_
        refine hv_iload_n C 2 2 dX12_wire_30 rfl rfl ?_
        refine hv_icmp_eq C 55 dX12_wire_31 (by decide) (by omega) (by omega) (fun h31 => ?_) (fun h31 => ?_)
        · skip
          refine hv_iconst C dX12_wire_55 ?_
          exact mo_iret (Qc := fun _ _ _ _ => True) C hr hlk (by first | exact if_n (by omega) rfl | (refine if_p (by omega) ?_; subst_vars; simp [u2]; try omega)) (by first | exact if_n (by omega) rfl | (refine if_p (by omega) ?_; subst_vars; have hq : (σ 1 1).toNat = n1 := (by omega); simp only [u2_sA, sA_sA, sA_at, do_wire, hq]; congr 2 <;> first | rfl | (simp [ua]; omega) | (congr 1; simp [ua]; omega))) dX12_wire_56
        · skip
          refine hv_iload_n C 3 3 dX12_wire_34 rfl rfl ?_
          refine hv_iconst C dX12_wire_35 ?_
          refine hv_sipush C dX12_wire_36 (by decide) ?_
          refine mo_callS [.int (iz miles), .int (iz 1), .int (iz 999)] [] C K (k_isIn l σ miles 1 999 (by omega) (by omega) (by omega)) ck_isIn (by decide) rfl (Nat.le_of_ble_eq_true rfl) dX12_wire_39 ?_
          refine hv_dif_eq C 55 dX12_wire_42 (by decide)  (fun h42 => ?_) (fun h42 => ?_)
          · skip
            refine hv_iconst C dX12_wire_55 ?_
            exact mo_iret (Qc := fun _ _ _ _ => True) C hr hlk (by first | exact if_n (by omega) rfl | (refine if_p (by omega) ?_; subst_vars; simp [u2]; try omega)) (by first | exact if_n (by omega) rfl | (refine if_p (by omega) ?_; subst_vars; have hq : (σ 1 1).toNat = n1 := (by omega); simp only [u2_sA, sA_sA, sA_at, do_wire, hq]; congr 2 <;> first | rfl | (simp [ua]; omega) | (congr 1; simp [ua]; omega))) dX12_wire_56
          · skip
            refine hv_iload C 4 4 dX12_wire_45 rfl ?_
            refine hv_iconst C dX12_wire_47 ?_
            refine hv_iconst C dX12_wire_48 ?_
            refine mo_callS [.int (iz circuits), .int (iz 1), .int (iz 3)] [] C K (k_isIn l σ circuits 1 3 (by omega) (by omega) (by omega)) ck_isIn (by decide) rfl (Nat.le_of_ble_eq_true rfl) dX12_wire_49 ?_
            refine hv_dif_ne C 57 dX12_wire_52 (by decide)  (fun h52 => ?_) (fun h52 => ?_)
            · skip
              refine hv_bipush C dX12_wire_57 (by decide) ?_
              refine hv_iconst C dX12_wire_59 ?_
              refine hv_aload_n C 0 0 dX12_wire_60 rfl rfl ?_
              refine mo_geta C K 0 1 (by decide) rfl mo_hw fl_7 rfl dX12_wire_61 ?_
              refine hv_iconst C dX12_wire_64 ?_
              refine mo_iald C K 1 9040 1 rfl (by omega) (by omega) (by decide) dX12_wire_65 ?_
              refine hv_nm (fun x2 ex2 => ?_)
              have rx2 : inI x2 := by rw [ex2]; exact hσ 1 1
              obtain ⟨n1, rfl⟩ : ∃ n : Nat, x2 = (n : Int) := ⟨(x2).toNat, by omega⟩
              refine hv_imul C dX12_wire_66 ?_
              refine hv_iadd C dX12_wire_67 ?_
              refine hv_istore C 5 [(5, .int (iz (30 + (4 * ((n1 : Nat) : Int))))), (0, .ref a0), (1, .int (iz a)), (2, .int (iz b)), (3, .int (iz miles)), (4, .int (iz circuits))] dX12_wire_68 (by decide) rfl ?_
              refine hv_aload_n C 0 1 dX12_wire_70 rfl rfl ?_
              refine mo_geta C K 0 1 (by decide) rfl mo_hw fl_7 rfl dX12_wire_71 ?_
              refine hv_iload C 5 0 dX12_wire_74 rfl ?_
              refine hv_iload_n C 1 2 dX12_wire_76 rfl rfl ?_
              refine mo_iast C K 1 9040 (30 + (4 * n1)) rfl (moW_set1 _ _ _ _ _ _) (by omega) (by omega) (by decide) dX12_wire_77 ?_
              refine hv_aload_n C 0 1 dX12_wire_78 rfl rfl ?_
              refine mo_geta C K 0 1 (by decide) rfl mo_hw fl_7 rfl dX12_wire_79 ?_
              refine hv_iload C 5 0 dX12_wire_82 rfl ?_
              refine hv_iconst C dX12_wire_84 ?_
              refine hv_iadd C dX12_wire_85 ?_
              refine hv_iload_n C 2 3 dX12_wire_86 rfl rfl ?_
              refine mo_iast C K 1 9040 ((30 + (4 * n1)) + 1) rfl (moW_set1 _ _ _ _ _ _) (by omega) (by omega) (by decide) dX12_wire_87 ?_
              refine hv_aload_n C 0 1 dX12_wire_88 rfl rfl ?_
              refine mo_geta C K 0 1 (by decide) rfl mo_hw fl_7 rfl dX12_wire_89 ?_
              refine hv_iload C 5 0 dX12_wire_92 rfl ?_
              refine hv_iconst C dX12_wire_94 ?_
              refine hv_iadd C dX12_wire_95 ?_
              refine hv_iload_n C 3 4 dX12_wire_96 rfl rfl ?_
              refine mo_iast C K 1 9040 ((30 + (4 * n1)) + 2) rfl (moW_set1 _ _ _ _ _ _) (by omega) (by omega) (by decide) dX12_wire_97 ?_
              refine hv_aload_n C 0 1 dX12_wire_98 rfl rfl ?_
              refine mo_geta C K 0 1 (by decide) rfl mo_hw fl_7 rfl dX12_wire_99 ?_
              refine hv_iload C 5 0 dX12_wire_102 rfl ?_
              refine hv_iconst C dX12_wire_104 ?_
              refine hv_iadd C dX12_wire_105 ?_
              refine hv_iload C 4 5 dX12_wire_106 rfl ?_
              refine mo_iast C K 1 9040 ((30 + (4 * n1)) + 3) rfl (moW_set1 _ _ _ _ _ _) (by omega) (by omega) (by decide) dX12_wire_108 ?_
              refine hv_aload_n C 0 1 dX12_wire_109 rfl rfl ?_
              refine mo_geta C K 0 1 (by decide) rfl mo_hw fl_7 rfl dX12_wire_110 ?_
              refine hv_iconst C dX12_wire_113 ?_
              refine hv_dup2 C dX12_wire_114 rfl rfl ?_
              refine mo_iald C K 1 9040 1 rfl (by omega) (by omega) (by decide) dX12_wire_115 ?_
              refine hv_nm (fun x3 ex3 => ?_)
              refine hv_iconst C dX12_wire_116 ?_
              refine hv_iadd C dX12_wire_117 ?_
              refine mo_iast C K 1 9040 1 rfl (moW_set1 _ _ _ _ _ _) (by omega) (by omega) (by decide) dX12_wire_118 ?_
              refine hv_aload_n C 0 1 dX12_wire_119 rfl rfl ?_
              refine mo_geta C K 0 1 (by decide) rfl mo_hw fl_7 rfl dX12_wire_120 ?_
              refine hv_iconst C dX12_wire_123 ?_
              refine mo_iald C K 1 9040 1 rfl (by omega) (by omega) (by decide) dX12_wire_124 ?_
              refine hv_nm (fun x4 ex4 => ?_)
              refine hv_iconst C dX12_wire_125 ?_
              refine hv_isub C dX12_wire_126 ?_
              exact mo_iret (Qc := fun _ _ _ _ => True) C hr hlk (by first | exact if_n (by omega) rfl | (refine if_p (by omega) ?_; subst_vars; simp [u2]; try omega)) (by first | exact if_n (by omega) rfl | (refine if_p (by omega) ?_; subst_vars; have hq : (σ 1 1).toNat = n1 := (by omega); simp only [u2_sA, sA_sA, sA_at, do_wire, hq]; congr 2 <;> first | rfl | (simp [ua]; omega) | (congr 1; simp [ua]; omega))) dX12_wire_127
            · skip
              refine hv_iconst C dX12_wire_55 ?_
              exact mo_iret (Qc := fun _ _ _ _ => True) C hr hlk (by first | exact if_n (by omega) rfl | (refine if_p (by omega) ?_; subst_vars; simp [u2]; try omega)) (by first | exact if_n (by omega) rfl | (refine if_p (by omega) ?_; subst_vars; have hq : (σ 1 1).toNat = n1 := (by omega); simp only [u2_sA, sA_sA, sA_at, do_wire, hq]; congr 2 <;> first | rfl | (simp [ua]; omega) | (congr 1; simp [ua]; omega))) dX12_wire_56
theorem dX12_station_0 : decode cX12_station 0 = .ok (.aload_n 0, 1) := by decide +kernel
theorem dX12_station_1 : decode cX12_station 1 = .ok (.getfield 7, 3) := by decide +kernel
theorem dX12_station_4 : decode cX12_station 4 = .ok (.iconst 2, 1) := by decide +kernel
theorem dX12_station_5 : decode cX12_station 5 = .ok (.iaload, 1) := by decide +kernel
theorem dX12_station_6 : decode cX12_station 6 = .ok (.bipush 8, 2) := by decide +kernel
theorem dX12_station_8 : decode cX12_station 8 = .ok (.if_icmp .eq 31, 3) := by decide +kernel
theorem dX12_station_11 : decode cX12_station 11 = .ok (.aload_n 0, 1) := by decide +kernel
theorem dX12_station_12 : decode cX12_station 12 = .ok (.iload_n 1, 1) := by decide +kernel
theorem dX12_station_13 : decode cX12_station 13 = .ok (.iconst 0, 1) := by decide +kernel
theorem dX12_station_14 : decode cX12_station 14 = .ok (.invokevirtual 63, 3) := by decide +kernel
theorem dX12_station_17 : decode cX12_station 17 = .ok (.ifCond .eq 22, 3) := by decide +kernel
theorem dX12_station_20 : decode cX12_station 20 = .ok (.iload_n 2, 1) := by decide +kernel
theorem dX12_station_21 : decode cX12_station 21 = .ok (.iconst 0, 1) := by decide +kernel
theorem dX12_station_22 : decode cX12_station 22 = .ok (.iconst 3, 1) := by decide +kernel
theorem dX12_station_23 : decode cX12_station 23 = .ok (.invokestatic 59, 3) := by decide +kernel
theorem dX12_station_26 : decode cX12_station 26 = .ok (.ifCond .eq 13, 3) := by decide +kernel
theorem dX12_station_29 : decode cX12_station 29 = .ok (.iload_n 3, 1) := by decide +kernel
theorem dX12_station_30 : decode cX12_station 30 = .ok (.iconst 1, 1) := by decide +kernel
theorem dX12_station_31 : decode cX12_station 31 = .ok (.bipush 99, 2) := by decide +kernel
theorem dX12_station_33 : decode cX12_station 33 = .ok (.invokestatic 59, 3) := by decide +kernel
theorem dX12_station_36 : decode cX12_station 36 = .ok (.ifCond .ne 5, 3) := by decide +kernel
theorem dX12_station_39 : decode cX12_station 39 = .ok (.iconst (-1), 1) := by decide +kernel
theorem dX12_station_40 : decode cX12_station 40 = .ok (.ireturn, 1) := by decide +kernel
theorem dX12_station_41 : decode cX12_station 41 = .ok (.bipush 80, 2) := by decide +kernel
theorem dX12_station_43 : decode cX12_station 43 = .ok (.iconst 4, 1) := by decide +kernel
theorem dX12_station_44 : decode cX12_station 44 = .ok (.aload_n 0, 1) := by decide +kernel
theorem dX12_station_45 : decode cX12_station 45 = .ok (.getfield 7, 3) := by decide +kernel
theorem dX12_station_48 : decode cX12_station 48 = .ok (.iconst 2, 1) := by decide +kernel
theorem dX12_station_49 : decode cX12_station 49 = .ok (.iaload, 1) := by decide +kernel
theorem dX12_station_50 : decode cX12_station 50 = .ok (.imul, 1) := by decide +kernel
theorem dX12_station_51 : decode cX12_station 51 = .ok (.iadd, 1) := by decide +kernel
theorem dX12_station_52 : decode cX12_station 52 = .ok (.istore 4, 2) := by decide +kernel
theorem dX12_station_54 : decode cX12_station 54 = .ok (.aload_n 0, 1) := by decide +kernel
theorem dX12_station_55 : decode cX12_station 55 = .ok (.getfield 7, 3) := by decide +kernel
theorem dX12_station_58 : decode cX12_station 58 = .ok (.iload 4, 2) := by decide +kernel
theorem dX12_station_60 : decode cX12_station 60 = .ok (.iload_n 1, 1) := by decide +kernel
theorem dX12_station_61 : decode cX12_station 61 = .ok (.iastore, 1) := by decide +kernel
theorem dX12_station_62 : decode cX12_station 62 = .ok (.aload_n 0, 1) := by decide +kernel
theorem dX12_station_63 : decode cX12_station 63 = .ok (.getfield 7, 3) := by decide +kernel
theorem dX12_station_66 : decode cX12_station 66 = .ok (.iload 4, 2) := by decide +kernel
theorem dX12_station_68 : decode cX12_station 68 = .ok (.iconst 1, 1) := by decide +kernel
theorem dX12_station_69 : decode cX12_station 69 = .ok (.iadd, 1) := by decide +kernel
theorem dX12_station_70 : decode cX12_station 70 = .ok (.iload_n 2, 1) := by decide +kernel
theorem dX12_station_71 : decode cX12_station 71 = .ok (.iastore, 1) := by decide +kernel
theorem dX12_station_72 : decode cX12_station 72 = .ok (.aload_n 0, 1) := by decide +kernel
theorem dX12_station_73 : decode cX12_station 73 = .ok (.getfield 7, 3) := by decide +kernel
theorem dX12_station_76 : decode cX12_station 76 = .ok (.iload 4, 2) := by decide +kernel
theorem dX12_station_78 : decode cX12_station 78 = .ok (.iconst 2, 1) := by decide +kernel
theorem dX12_station_79 : decode cX12_station 79 = .ok (.iadd, 1) := by decide +kernel
theorem dX12_station_80 : decode cX12_station 80 = .ok (.iload_n 3, 1) := by decide +kernel
theorem dX12_station_81 : decode cX12_station 81 = .ok (.iastore, 1) := by decide +kernel
theorem dX12_station_82 : decode cX12_station 82 = .ok (.aload_n 0, 1) := by decide +kernel
theorem dX12_station_83 : decode cX12_station 83 = .ok (.getfield 7, 3) := by decide +kernel
theorem dX12_station_86 : decode cX12_station 86 = .ok (.iload 4, 2) := by decide +kernel
theorem dX12_station_88 : decode cX12_station 88 = .ok (.iconst 3, 1) := by decide +kernel
theorem dX12_station_89 : decode cX12_station 89 = .ok (.iadd, 1) := by decide +kernel
theorem dX12_station_90 : decode cX12_station 90 = .ok (.iconst 0, 1) := by decide +kernel
theorem dX12_station_91 : decode cX12_station 91 = .ok (.iastore, 1) := by decide +kernel
theorem dX12_station_92 : decode cX12_station 92 = .ok (.aload_n 0, 1) := by decide +kernel
theorem dX12_station_93 : decode cX12_station 93 = .ok (.getfield 7, 3) := by decide +kernel
theorem dX12_station_96 : decode cX12_station 96 = .ok (.iconst 2, 1) := by decide +kernel
theorem dX12_station_97 : decode cX12_station 97 = .ok (.dup2, 1) := by decide +kernel
theorem dX12_station_98 : decode cX12_station 98 = .ok (.iaload, 1) := by decide +kernel
theorem dX12_station_99 : decode cX12_station 99 = .ok (.iconst 1, 1) := by decide +kernel
theorem dX12_station_100 : decode cX12_station 100 = .ok (.iadd, 1) := by decide +kernel
theorem dX12_station_101 : decode cX12_station 101 = .ok (.iastore, 1) := by decide +kernel
theorem dX12_station_102 : decode cX12_station 102 = .ok (.aload_n 0, 1) := by decide +kernel
theorem dX12_station_103 : decode cX12_station 103 = .ok (.getfield 7, 3) := by decide +kernel
theorem dX12_station_106 : decode cX12_station 106 = .ok (.iconst 2, 1) := by decide +kernel
theorem dX12_station_107 : decode cX12_station 107 = .ok (.iaload, 1) := by decide +kernel
theorem dX12_station_108 : decode cX12_station 108 = .ok (.iconst 1, 1) := by decide +kernel
theorem dX12_station_109 : decode cX12_station 109 = .ok (.isub, 1) := by decide +kernel
theorem dX12_station_110 : decode cX12_station 110 = .ok (.ireturn, 1) := by decide +kernel
set_option maxRecDepth 100000 in
set_option maxHeartbeats 4000000 in
theorem k_station (l : Launch) {D : va_G} {cI cZ : ClassId} {a0 : Nat} (σ : Nat → Nat → Int) (town : Int) (zone : Int) (power : Int) (hσ : rg σ) (hc : cn (σ 1)) (r_town : inI town) (r_zone : inI zone) (r_power : inI power) : moM l D cI cZ a0 yX12_station cX12_station 5 (some .int) 2 44 [.ref a0, .int (iz town), .int (iz zone), .int (iz power)] σ (some (.int (iz (if ok_station (σ 1) town zone power then σ 1 2 else -1)))) (if ok_station (σ 1) town zone power then sA σ 1 (do_station (σ 1) town zone power) else σ) := by
  refine mo_start (by decide) rfl (Nat.le_of_ble_eq_true rfl) ?_
  intro p e s m args below meth c C K hr hlk
  refine hv_aload_n C 0 0 dX12_station_0 rfl rfl ?_
  refine mo_geta C K 0 1 (by decide) rfl mo_hw fl_7 rfl dX12_station_1 ?_
  refine hv_iconst C dX12_station_4 ?_
  refine mo_iald C K 1 9040 2 rfl (by omega) (by omega) (by decide) dX12_station_5 ?_
  refine hv_nm (fun x1 ex1 => ?_)
  have rx1 : inI x1 := by rw [ex1]; exact hσ 1 2
  refine hv_bipush C dX12_station_6 (by decide) ?_
  refine hv_icmp_eq C 39 dX12_station_8 (by decide) (by omega) (by omega) (fun h8 => ?_) (fun h8 => ?_)
  · skip
    refine hv_iconst C dX12_station_39 ?_
    exact mo_iret (Qc := fun _ _ _ _ => True) C hr hlk (by first | exact if_n (by omega) rfl | (refine if_p (by omega) ?_; subst_vars; simp [u2]; try omega)) (by first | exact if_n (by omega) rfl | (refine if_p (by omega) ?_; subst_vars; have hq : (σ 1 2).toNat = n1 := (by omega); simp only [u2_sA, sA_sA, sA_at, do_station, hq]; congr 2 <;> first | rfl | (simp [ua]; omega) | (congr 1; simp [ua]; omega))) dX12_station_40
  · skip
    refine hv_aload_n C 0 0 dX12_station_11 rfl rfl ?_
    refine hv_iload_n C 1 1 dX12_station_12 rfl rfl ?_
    refine hv_iconst C dX12_station_13 ?_
    refine mo_call [.int (iz town), .int (iz 0)] [] C K (k_isOf l σ town 0 hσ (by omega) (by omega) (by omega)) ck_isOf (by decide) rfl (Nat.le_of_ble_eq_true rfl) dX12_station_14 ?_
    refine hv_dif_eq C 39 dX12_station_17 (by decide)  (fun h17 => ?_) (fun h17 => ?_)
    · skip
      refine hv_iconst C dX12_station_39 ?_
      exact mo_iret (Qc := fun _ _ _ _ => True) C hr hlk (by first | exact if_n (by omega) rfl | (refine if_p (by omega) ?_; subst_vars; simp [u2]; try omega)) (by first | exact if_n (by omega) rfl | (refine if_p (by omega) ?_; subst_vars; have hq : (σ 1 2).toNat = n1 := (by omega); simp only [u2_sA, sA_sA, sA_at, do_station, hq]; congr 2 <;> first | rfl | (simp [ua]; omega) | (congr 1; simp [ua]; omega))) dX12_station_40
    · skip
      refine hv_iload_n C 2 2 dX12_station_20 rfl rfl ?_
      refine hv_iconst C dX12_station_21 ?_
      refine hv_iconst C dX12_station_22 ?_
      refine mo_callS [.int (iz zone), .int (iz 0), .int (iz 3)] [] C K (k_isIn l σ zone 0 3 (by omega) (by omega) (by omega)) ck_isIn (by decide) rfl (Nat.le_of_ble_eq_true rfl) dX12_station_23 ?_
      refine hv_dif_eq C 39 dX12_station_26 (by decide)  (fun h26 => ?_) (fun h26 => ?_)
      · skip
        refine hv_iconst C dX12_station_39 ?_
        exact mo_iret (Qc := fun _ _ _ _ => True) C hr hlk (by first | exact if_n (by omega) rfl | (refine if_p (by omega) ?_; subst_vars; simp [u2]; try omega)) (by first | exact if_n (by omega) rfl | (refine if_p (by omega) ?_; subst_vars; have hq : (σ 1 2).toNat = n1 := (by omega); simp only [u2_sA, sA_sA, sA_at, do_station, hq]; congr 2 <;> first | rfl | (simp [ua]; omega) | (congr 1; simp [ua]; omega))) dX12_station_40
      · skip
        refine hv_iload_n C 3 3 dX12_station_29 rfl rfl ?_
        refine hv_iconst C dX12_station_30 ?_
        refine hv_bipush C dX12_station_31 (by decide) ?_
        refine mo_callS [.int (iz power), .int (iz 1), .int (iz 99)] [] C K (k_isIn l σ power 1 99 (by omega) (by omega) (by omega)) ck_isIn (by decide) rfl (Nat.le_of_ble_eq_true rfl) dX12_station_33 ?_
        refine hv_dif_ne C 41 dX12_station_36 (by decide)  (fun h36 => ?_) (fun h36 => ?_)
        · skip
          refine hv_bipush C dX12_station_41 (by decide) ?_
          refine hv_iconst C dX12_station_43 ?_
          refine hv_aload_n C 0 0 dX12_station_44 rfl rfl ?_
          refine mo_geta C K 0 1 (by decide) rfl mo_hw fl_7 rfl dX12_station_45 ?_
          refine hv_iconst C dX12_station_48 ?_
          refine mo_iald C K 1 9040 2 rfl (by omega) (by omega) (by decide) dX12_station_49 ?_
          refine hv_nm (fun x2 ex2 => ?_)
          have rx2 : inI x2 := by rw [ex2]; exact hσ 1 2
          obtain ⟨n1, rfl⟩ : ∃ n : Nat, x2 = (n : Int) := ⟨(x2).toNat, by omega⟩
          refine hv_imul C dX12_station_50 ?_
          refine hv_iadd C dX12_station_51 ?_
          refine hv_istore C 4 [(4, .int (iz (80 + (4 * ((n1 : Nat) : Int))))), (0, .ref a0), (1, .int (iz town)), (2, .int (iz zone)), (3, .int (iz power))] dX12_station_52 (by decide) rfl ?_
          refine hv_aload_n C 0 1 dX12_station_54 rfl rfl ?_
          refine mo_geta C K 0 1 (by decide) rfl mo_hw fl_7 rfl dX12_station_55 ?_
          refine hv_iload C 4 0 dX12_station_58 rfl ?_
          refine hv_iload_n C 1 2 dX12_station_60 rfl rfl ?_
          refine mo_iast C K 1 9040 (80 + (4 * n1)) rfl (moW_set1 _ _ _ _ _ _) (by omega) (by omega) (by decide) dX12_station_61 ?_
          refine hv_aload_n C 0 1 dX12_station_62 rfl rfl ?_
          refine mo_geta C K 0 1 (by decide) rfl mo_hw fl_7 rfl dX12_station_63 ?_
          refine hv_iload C 4 0 dX12_station_66 rfl ?_
          refine hv_iconst C dX12_station_68 ?_
          refine hv_iadd C dX12_station_69 ?_
          refine hv_iload_n C 2 3 dX12_station_70 rfl rfl ?_
          refine mo_iast C K 1 9040 ((80 + (4 * n1)) + 1) rfl (moW_set1 _ _ _ _ _ _) (by omega) (by omega) (by decide) dX12_station_71 ?_
          refine hv_aload_n C 0 1 dX12_station_72 rfl rfl ?_
          refine mo_geta C K 0 1 (by decide) rfl mo_hw fl_7 rfl dX12_station_73 ?_
          refine hv_iload C 4 0 dX12_station_76 rfl ?_
          refine hv_iconst C dX12_station_78 ?_
          refine hv_iadd C dX12_station_79 ?_
          refine hv_iload_n C 3 4 dX12_station_80 rfl rfl ?_
          refine mo_iast C K 1 9040 ((80 + (4 * n1)) + 2) rfl (moW_set1 _ _ _ _ _ _) (by omega) (by omega) (by decide) dX12_station_81 ?_
          refine hv_aload_n C 0 1 dX12_station_82 rfl rfl ?_
          refine mo_geta C K 0 1 (by decide) rfl mo_hw fl_7 rfl dX12_station_83 ?_
          refine hv_iload C 4 0 dX12_station_86 rfl ?_
          refine hv_iconst C dX12_station_88 ?_
          refine hv_iadd C dX12_station_89 ?_
          refine hv_iconst C dX12_station_90 ?_
          refine mo_iast C K 1 9040 ((80 + (4 * n1)) + 3) rfl (moW_set1 _ _ _ _ _ _) (by omega) (by omega) (by decide) dX12_station_91 ?_
          refine hv_aload_n C 0 1 dX12_station_92 rfl rfl ?_
          refine mo_geta C K 0 1 (by decide) rfl mo_hw fl_7 rfl dX12_station_93 ?_
          refine hv_iconst C dX12_station_96 ?_
          refine hv_dup2 C dX12_station_97 rfl rfl ?_
          refine mo_iald C K 1 9040 2 rfl (by omega) (by omega) (by decide) dX12_station_98 ?_
          refine hv_nm (fun x3 ex3 => ?_)
          refine hv_iconst C dX12_station_99 ?_
          refine hv_iadd C dX12_station_100 ?_
          refine mo_iast C K 1 9040 2 rfl (moW_set1 _ _ _ _ _ _) (by omega) (by omega) (by decide) dX12_station_101 ?_
          refine hv_aload_n C 0 1 dX12_station_102 rfl rfl ?_
          refine mo_geta C K 0 1 (by decide) rfl mo_hw fl_7 rfl dX12_station_103 ?_
          refine hv_iconst C dX12_station_106 ?_
          refine mo_iald C K 1 9040 2 rfl (by omega) (by omega) (by decide) dX12_station_107 ?_
          refine hv_nm (fun x4 ex4 => ?_)
          refine hv_iconst C dX12_station_108 ?_
          refine hv_isub C dX12_station_109 ?_
          exact mo_iret (Qc := fun _ _ _ _ => True) C hr hlk (by first | exact if_n (by omega) rfl | (refine if_p (by omega) ?_; subst_vars; simp [u2]; try omega)) (by first | exact if_n (by omega) rfl | (refine if_p (by omega) ?_; subst_vars; have hq : (σ 1 2).toNat = n1 := (by omega); simp only [u2_sA, sA_sA, sA_at, do_station, hq]; congr 2 <;> first | rfl | (simp [ua]; omega) | (congr 1; simp [ua]; omega))) dX12_station_110
        · skip
          refine hv_iconst C dX12_station_39 ?_
          exact mo_iret (Qc := fun _ _ _ _ => True) C hr hlk (by first | exact if_n (by omega) rfl | (refine if_p (by omega) ?_; subst_vars; simp [u2]; try omega)) (by first | exact if_n (by omega) rfl | (refine if_p (by omega) ?_; subst_vars; have hq : (σ 1 2).toNat = n1 := (by omega); simp only [u2_sA, sA_sA, sA_at, do_station, hq]; congr 2 <;> first | rfl | (simp [ua]; omega) | (congr 1; simp [ua]; omega))) dX12_station_40
theorem dX12_summer_0 : decode cX12_summer 0 = .ok (.iload_n 1, 1) := by decide +kernel
theorem dX12_summer_1 : decode cX12_summer 1 = .ok (.iconst 0, 1) := by decide +kernel
theorem dX12_summer_2 : decode cX12_summer 2 = .ok (.iconst 3, 1) := by decide +kernel
theorem dX12_summer_3 : decode cX12_summer 3 = .ok (.invokestatic 59, 3) := by decide +kernel
theorem dX12_summer_6 : decode cX12_summer 6 = .ok (.ifCond .eq 17, 3) := by decide +kernel
theorem dX12_summer_9 : decode cX12_summer 9 = .ok (.iload_n 2, 1) := by decide +kernel
theorem dX12_summer_10 : decode cX12_summer 10 = .ok (.invokestatic 75, 3) := by decide +kernel
theorem dX12_summer_13 : decode cX12_summer 13 = .ok (.ifCond .eq 10, 3) := by decide +kernel
theorem dX12_summer_16 : decode cX12_summer 16 = .ok (.iload_n 3, 1) := by decide +kernel
theorem dX12_summer_17 : decode cX12_summer 17 = .ok (.invokestatic 75, 3) := by decide +kernel
theorem dX12_summer_20 : decode cX12_summer 20 = .ok (.ifCond .ne 5, 3) := by decide +kernel
theorem dX12_summer_23 : decode cX12_summer 23 = .ok (.iconst 0, 1) := by decide +kernel
theorem dX12_summer_24 : decode cX12_summer 24 = .ok (.ireturn, 1) := by decide +kernel
theorem dX12_summer_25 : decode cX12_summer 25 = .ok (.aload_n 0, 1) := by decide +kernel
theorem dX12_summer_26 : decode cX12_summer 26 = .ok (.getfield 7, 3) := by decide +kernel
theorem dX12_summer_29 : decode cX12_summer 29 = .ok (.bipush 20, 2) := by decide +kernel
theorem dX12_summer_31 : decode cX12_summer 31 = .ok (.iconst 2, 1) := by decide +kernel
theorem dX12_summer_32 : decode cX12_summer 32 = .ok (.iload_n 1, 1) := by decide +kernel
theorem dX12_summer_33 : decode cX12_summer 33 = .ok (.imul, 1) := by decide +kernel
theorem dX12_summer_34 : decode cX12_summer 34 = .ok (.iadd, 1) := by decide +kernel
theorem dX12_summer_35 : decode cX12_summer 35 = .ok (.iload_n 2, 1) := by decide +kernel
theorem dX12_summer_36 : decode cX12_summer 36 = .ok (.iastore, 1) := by decide +kernel
theorem dX12_summer_37 : decode cX12_summer 37 = .ok (.aload_n 0, 1) := by decide +kernel
theorem dX12_summer_38 : decode cX12_summer 38 = .ok (.getfield 7, 3) := by decide +kernel
theorem dX12_summer_41 : decode cX12_summer 41 = .ok (.bipush 20, 2) := by decide +kernel
theorem dX12_summer_43 : decode cX12_summer 43 = .ok (.iconst 2, 1) := by decide +kernel
theorem dX12_summer_44 : decode cX12_summer 44 = .ok (.iload_n 1, 1) := by decide +kernel
theorem dX12_summer_45 : decode cX12_summer 45 = .ok (.imul, 1) := by decide +kernel
theorem dX12_summer_46 : decode cX12_summer 46 = .ok (.iadd, 1) := by decide +kernel
theorem dX12_summer_47 : decode cX12_summer 47 = .ok (.iconst 1, 1) := by decide +kernel
theorem dX12_summer_48 : decode cX12_summer 48 = .ok (.iadd, 1) := by decide +kernel
theorem dX12_summer_49 : decode cX12_summer 49 = .ok (.iload_n 3, 1) := by decide +kernel
theorem dX12_summer_50 : decode cX12_summer 50 = .ok (.iastore, 1) := by decide +kernel
theorem dX12_summer_51 : decode cX12_summer 51 = .ok (.iconst 1, 1) := by decide +kernel
theorem dX12_summer_52 : decode cX12_summer 52 = .ok (.ireturn, 1) := by decide +kernel
set_option maxRecDepth 100000 in
set_option maxHeartbeats 4000000 in
theorem k_summer (l : Launch) {D : va_G} {cI cZ : ClassId} {a0 : Nat} (σ : Nat → Nat → Int) (zone : Int) (fr : Int) (to : Int) (hσ : rg σ) (hc : cn (σ 1)) (r_zone : inI zone) (r_fr : inI fr) (r_to : inI to) : moM l D cI cZ a0 yX12_summer cX12_summer 4 (some .boolean) 2 42 [.ref a0, .int (iz zone), .int (iz fr), .int (iz to)] σ (some (.int (iz (xb (decide (ok_summer zone fr to)))))) (if ok_summer zone fr to then sA σ 1 (do_summer (σ 1) zone fr to) else σ) := by
  refine mo_start (by decide) rfl (Nat.le_of_ble_eq_true rfl) ?_
  intro p e s m args below meth c C K hr hlk
  refine hv_iload_n C 1 1 dX12_summer_0 rfl rfl ?_
  refine hv_iconst C dX12_summer_1 ?_
  refine hv_iconst C dX12_summer_2 ?_
  refine mo_callS [.int (iz zone), .int (iz 0), .int (iz 3)] [] C K (k_isIn l σ zone 0 3 (by omega) (by omega) (by omega)) ck_isIn (by decide) rfl (Nat.le_of_ble_eq_true rfl) dX12_summer_3 ?_
  refine hv_dif_eq C 23 dX12_summer_6 (by decide)  (fun h6 => ?_) (fun h6 => ?_)
  · skip
    refine hv_iconst C dX12_summer_23 ?_
    exact mo_zret (Qc := fun _ _ _ _ => True) C hr hlk ((xb_f (decide_eq_false (by omega))).symm) (by first | exact if_n (by omega) rfl | exact if_p (by omega) rfl | (refine if_p (by omega) ?_; simp only [u2_sA, sA_sA, sA_at, Int.toNat_natCast, do_summer])) dX12_summer_24
  · skip
    refine hv_iload_n C 2 2 dX12_summer_9 rfl rfl ?_
    refine mo_callS [.int (iz fr)] [] C K (k_isDay l σ fr (by omega)) ck_isDay (by decide) rfl (Nat.le_of_ble_eq_true rfl) dX12_summer_10 ?_
    refine hv_dif_eq C 23 dX12_summer_13 (by decide)  (fun h13 => ?_) (fun h13 => ?_)
    · skip
      refine hv_iconst C dX12_summer_23 ?_
      exact mo_zret (Qc := fun _ _ _ _ => True) C hr hlk ((xb_f (decide_eq_false (by omega))).symm) (by first | exact if_n (by omega) rfl | exact if_p (by omega) rfl | (refine if_p (by omega) ?_; simp only [u2_sA, sA_sA, sA_at, Int.toNat_natCast, do_summer])) dX12_summer_24
    · skip
      refine hv_iload_n C 3 3 dX12_summer_16 rfl rfl ?_
      refine mo_callS [.int (iz to)] [] C K (k_isDay l σ to (by omega)) ck_isDay (by decide) rfl (Nat.le_of_ble_eq_true rfl) dX12_summer_17 ?_
      refine hv_dif_ne C 25 dX12_summer_20 (by decide)  (fun h20 => ?_) (fun h20 => ?_)
      · skip
        obtain ⟨zn, rfl⟩ : ∃ n : Nat, zone = (n : Int) := ⟨(zone).toNat, by omega⟩
        refine hv_aload_n C 0 0 dX12_summer_25 rfl rfl ?_
        refine mo_geta C K 0 1 (by decide) rfl mo_hw fl_7 rfl dX12_summer_26 ?_
        refine hv_bipush C dX12_summer_29 (by decide) ?_
        refine hv_iconst C dX12_summer_31 ?_
        refine hv_iload_n C 1 1 dX12_summer_32 rfl rfl ?_
        refine hv_imul C dX12_summer_33 ?_
        refine hv_iadd C dX12_summer_34 ?_
        refine hv_iload_n C 2 2 dX12_summer_35 rfl rfl ?_
        refine mo_iast C K 1 9040 (20 + (2 * zn)) rfl (moW_set1 _ _ _ _ _ _) (by omega) (by omega) (by decide) dX12_summer_36 ?_
        refine hv_aload_n C 0 0 dX12_summer_37 rfl rfl ?_
        refine mo_geta C K 0 1 (by decide) rfl mo_hw fl_7 rfl dX12_summer_38 ?_
        refine hv_bipush C dX12_summer_41 (by decide) ?_
        refine hv_iconst C dX12_summer_43 ?_
        refine hv_iload_n C 1 1 dX12_summer_44 rfl rfl ?_
        refine hv_imul C dX12_summer_45 ?_
        refine hv_iadd C dX12_summer_46 ?_
        refine hv_iconst C dX12_summer_47 ?_
        refine hv_iadd C dX12_summer_48 ?_
        refine hv_iload_n C 3 3 dX12_summer_49 rfl rfl ?_
        refine mo_iast C K 1 9040 ((20 + (2 * zn)) + 1) rfl (moW_set1 _ _ _ _ _ _) (by omega) (by omega) (by decide) dX12_summer_50 ?_
        refine hv_iconst C dX12_summer_51 ?_
        exact mo_zret (Qc := fun _ _ _ _ => True) C hr hlk ((xb_t (decide_eq_true (by omega))).symm) (by first | exact if_n (by omega) rfl | exact if_p (by omega) rfl | (refine if_p (by omega) ?_; simp only [u2_sA, sA_sA, sA_at, Int.toNat_natCast, do_summer])) dX12_summer_52
      · skip
        refine hv_iconst C dX12_summer_23 ?_
        exact mo_zret (Qc := fun _ _ _ _ => True) C hr hlk ((xb_f (decide_eq_false (by omega))).symm) (by first | exact if_n (by omega) rfl | exact if_p (by omega) rfl | (refine if_p (by omega) ?_; simp only [u2_sA, sA_sA, sA_at, Int.toNat_natCast, do_summer])) dX12_summer_24
theorem dX12_isSummer_0 : decode cX12_isSummer 0 = .ok (.iload_n 2, 1) := by decide +kernel
theorem dX12_isSummer_1 : decode cX12_isSummer 1 = .ok (.aload_n 0, 1) := by decide +kernel
theorem dX12_isSummer_2 : decode cX12_isSummer 2 = .ok (.getfield 7, 3) := by decide +kernel
theorem dX12_isSummer_5 : decode cX12_isSummer 5 = .ok (.bipush 20, 2) := by decide +kernel
theorem dX12_isSummer_7 : decode cX12_isSummer 7 = .ok (.iconst 2, 1) := by decide +kernel
theorem dX12_isSummer_8 : decode cX12_isSummer 8 = .ok (.iload_n 1, 1) := by decide +kernel
theorem dX12_isSummer_9 : decode cX12_isSummer 9 = .ok (.imul, 1) := by decide +kernel
theorem dX12_isSummer_10 : decode cX12_isSummer 10 = .ok (.iadd, 1) := by decide +kernel
theorem dX12_isSummer_11 : decode cX12_isSummer 11 = .ok (.iaload, 1) := by decide +kernel
theorem dX12_isSummer_12 : decode cX12_isSummer 12 = .ok (.aload_n 0, 1) := by decide +kernel
theorem dX12_isSummer_13 : decode cX12_isSummer 13 = .ok (.getfield 7, 3) := by decide +kernel
theorem dX12_isSummer_16 : decode cX12_isSummer 16 = .ok (.bipush 20, 2) := by decide +kernel
theorem dX12_isSummer_18 : decode cX12_isSummer 18 = .ok (.iconst 2, 1) := by decide +kernel
theorem dX12_isSummer_19 : decode cX12_isSummer 19 = .ok (.iload_n 1, 1) := by decide +kernel
theorem dX12_isSummer_20 : decode cX12_isSummer 20 = .ok (.imul, 1) := by decide +kernel
theorem dX12_isSummer_21 : decode cX12_isSummer 21 = .ok (.iadd, 1) := by decide +kernel
theorem dX12_isSummer_22 : decode cX12_isSummer 22 = .ok (.iconst 1, 1) := by decide +kernel
theorem dX12_isSummer_23 : decode cX12_isSummer 23 = .ok (.iadd, 1) := by decide +kernel
theorem dX12_isSummer_24 : decode cX12_isSummer 24 = .ok (.iaload, 1) := by decide +kernel
theorem dX12_isSummer_25 : decode cX12_isSummer 25 = .ok (.invokestatic 59, 3) := by decide +kernel
theorem dX12_isSummer_28 : decode cX12_isSummer 28 = .ok (.ireturn, 1) := by decide +kernel
set_option maxRecDepth 100000 in
set_option maxHeartbeats 4000000 in
theorem k_isSummer (l : Launch) {D : va_G} {cI cZ : ClassId} {a0 : Nat} (σ : Nat → Nat → Int) (zone : Nat) (day : Int) (hσ : rg σ) (hz : zone < 4) (r_day : inI day) : moM l D cI cZ a0 yX12_isSummer cX12_isSummer 3 (some .boolean) 1 22 [.ref a0, .int (iz ((zone : Nat) : Int)), .int (iz day)] σ (some (.int (iz (xb (decide (σ 1 (20 + (2 * zone)) ≤ day ∧ day ≤ σ 1 ((20 + (2 * zone)) + 1))))))) (σ) := by
  refine mo_start (by decide) rfl (Nat.le_of_ble_eq_true rfl) ?_
  intro p e s m args below meth c C K hr hlk
  refine hv_iload_n C 2 2 dX12_isSummer_0 rfl rfl ?_
  refine hv_aload_n C 0 0 dX12_isSummer_1 rfl rfl ?_
  refine mo_geta C K 0 1 (by decide) rfl mo_hw fl_7 rfl dX12_isSummer_2 ?_
  refine hv_bipush C dX12_isSummer_5 (by decide) ?_
  refine hv_iconst C dX12_isSummer_7 ?_
  refine hv_iload_n C 1 1 dX12_isSummer_8 rfl rfl ?_
  refine hv_imul C dX12_isSummer_9 ?_
  refine hv_iadd C dX12_isSummer_10 ?_
  refine mo_iald C K 1 9040 (20 + (2 * zone)) rfl (by omega) (by omega) (by decide) dX12_isSummer_11 ?_
  refine hv_nm (fun x1 ex1 => ?_)
  have rx1 : inI x1 := by rw [ex1]; exact hσ 1 (20 + (2 * zone))
  refine hv_aload_n C 0 0 dX12_isSummer_12 rfl rfl ?_
  refine mo_geta C K 0 1 (by decide) rfl mo_hw fl_7 rfl dX12_isSummer_13 ?_
  refine hv_bipush C dX12_isSummer_16 (by decide) ?_
  refine hv_iconst C dX12_isSummer_18 ?_
  refine hv_iload_n C 1 1 dX12_isSummer_19 rfl rfl ?_
  refine hv_imul C dX12_isSummer_20 ?_
  refine hv_iadd C dX12_isSummer_21 ?_
  refine hv_iconst C dX12_isSummer_22 ?_
  refine hv_iadd C dX12_isSummer_23 ?_
  refine mo_iald C K 1 9040 ((20 + (2 * zone)) + 1) rfl (by omega) (by omega) (by decide) dX12_isSummer_24 ?_
  refine hv_nm (fun x2 ex2 => ?_)
  have rx2 : inI x2 := by rw [ex2]; exact hσ 1 ((20 + (2 * zone)) + 1)
  refine mo_callS [.int (iz day), .int (iz x1), .int (iz x2)] [] C K (k_isIn l σ day x1 x2 (by omega) (by omega) (by omega)) ck_isIn (by decide) rfl (Nat.le_of_ble_eq_true rfl) dX12_isSummer_25 ?_
  exact mo_zret (Qc := fun _ _ _ _ => True) C hr hlk ((congrArg xb (decide_eq_decide.mpr (by omega)))) rfl dX12_isSummer_28
theorem dX12_localOf_0 : decode cX12_localOf 0 = .ok (.bipush 48, 2) := by decide +kernel
theorem dX12_localOf_2 : decode cX12_localOf 2 = .ok (.iload_n 2, 1) := by decide +kernel
theorem dX12_localOf_3 : decode cX12_localOf 3 = .ok (.imul, 1) := by decide +kernel
theorem dX12_localOf_4 : decode cX12_localOf 4 = .ok (.iload_n 3, 1) := by decide +kernel
theorem dX12_localOf_5 : decode cX12_localOf 5 = .ok (.iadd, 1) := by decide +kernel
theorem dX12_localOf_6 : decode cX12_localOf 6 = .ok (.iconst 2, 1) := by decide +kernel
theorem dX12_localOf_7 : decode cX12_localOf 7 = .ok (.iload_n 1, 1) := by decide +kernel
theorem dX12_localOf_8 : decode cX12_localOf 8 = .ok (.imul, 1) := by decide +kernel
theorem dX12_localOf_9 : decode cX12_localOf 9 = .ok (.isub, 1) := by decide +kernel
theorem dX12_localOf_10 : decode cX12_localOf 10 = .ok (.aload_n 0, 1) := by decide +kernel
theorem dX12_localOf_11 : decode cX12_localOf 11 = .ok (.iload_n 1, 1) := by decide +kernel
theorem dX12_localOf_12 : decode cX12_localOf 12 = .ok (.iload_n 2, 1) := by decide +kernel
theorem dX12_localOf_13 : decode cX12_localOf 13 = .ok (.invokevirtual 78, 3) := by decide +kernel
theorem dX12_localOf_16 : decode cX12_localOf 16 = .ok (.ifCond .eq 7, 3) := by decide +kernel
theorem dX12_localOf_19 : decode cX12_localOf 19 = .ok (.iconst 2, 1) := by decide +kernel
theorem dX12_localOf_20 : decode cX12_localOf 20 = .ok (.goto 4, 3) := by decide +kernel
theorem dX12_localOf_23 : decode cX12_localOf 23 = .ok (.iconst 0, 1) := by decide +kernel
theorem dX12_localOf_24 : decode cX12_localOf 24 = .ok (.iadd, 1) := by decide +kernel
theorem dX12_localOf_25 : decode cX12_localOf 25 = .ok (.ireturn, 1) := by decide +kernel
set_option maxRecDepth 100000 in
set_option maxHeartbeats 4000000 in
theorem k_localOf (l : Launch) {D : va_G} {cI cZ : ClassId} {a0 : Nat} (σ : Nat → Nat → Int) (zone : Nat) (day : Int) (slot : Int) (hσ : rg σ) (hz : zone < 4) (r_day : inI day) : moM l D cI cZ a0 yX12_localOf cX12_localOf 4 (some .int) 2 44 [.ref a0, .int (iz ((zone : Nat) : Int)), .int (iz day), .int (iz slot)] σ (some (.int (iz (lo (σ 1) zone day slot)))) (σ) := by
  refine mo_start (by decide) rfl (Nat.le_of_ble_eq_true rfl) ?_
  intro p e s m args below meth c C K hr hlk
  refine hv_bipush C dX12_localOf_0 (by decide) ?_
  refine hv_iload_n C 2 2 dX12_localOf_2 rfl rfl ?_
  refine hv_imul C dX12_localOf_3 ?_
  refine hv_iload_n C 3 3 dX12_localOf_4 rfl rfl ?_
  refine hv_iadd C dX12_localOf_5 ?_
  refine hv_iconst C dX12_localOf_6 ?_
  refine hv_iload_n C 1 1 dX12_localOf_7 rfl rfl ?_
  refine hv_imul C dX12_localOf_8 ?_
  refine hv_isub C dX12_localOf_9 ?_
  refine hv_aload_n C 0 0 dX12_localOf_10 rfl rfl ?_
  refine hv_iload_n C 1 1 dX12_localOf_11 rfl rfl ?_
  refine hv_iload_n C 2 2 dX12_localOf_12 rfl rfl ?_
  refine mo_call [.int (iz ((zone : Nat) : Int)), .int (iz day)] [.int (iz (((48 * day) + slot) - (2 * ((zone : Nat) : Int))))] C K (k_isSummer l σ zone day hσ (by omega) (by omega)) ck_isSummer (by decide) rfl (Nat.le_of_ble_eq_true rfl) dX12_localOf_13 ?_
  refine hv_dif_eq C 23 dX12_localOf_16 (by decide)  (fun h16 => ?_) (fun h16 => ?_)
  · skip
    refine hv_iconst C dX12_localOf_23 ?_
    refine hv_iadd C dX12_localOf_24 ?_
    exact mo_iret (Qc := fun _ _ _ _ => True) C hr hlk (by unfold lo; first | (rw [if_pos (by omega)]) | (rw [if_neg (by omega)])) rfl dX12_localOf_25
  · skip
    refine hv_iconst C dX12_localOf_19 ?_
    refine hv_goto C 24 dX12_localOf_20 (by decide) ?_
    refine hv_iadd C dX12_localOf_24 ?_
    exact mo_iret (Qc := fun _ _ _ _ => True) C hr hlk (by unfold lo; first | (rw [if_pos (by omega)]) | (rw [if_neg (by omega)])) rfl dX12_localOf_25
theorem dX12_slotOf_0 : decode cX12_slotOf 0 = .ok (.iload_n 0, 1) := by decide +kernel
theorem dX12_slotOf_1 : decode cX12_slotOf 1 = .ok (.bipush 48, 2) := by decide +kernel
theorem dX12_slotOf_3 : decode cX12_slotOf 3 = .ok (.iadd, 1) := by decide +kernel
theorem dX12_slotOf_4 : decode cX12_slotOf 4 = .ok (.bipush 48, 2) := by decide +kernel
theorem dX12_slotOf_6 : decode cX12_slotOf 6 = .ok (.irem, 1) := by decide +kernel
theorem dX12_slotOf_7 : decode cX12_slotOf 7 = .ok (.ireturn, 1) := by decide +kernel
set_option maxRecDepth 100000 in
set_option maxHeartbeats 4000000 in
theorem k_slotOf (l : Launch) {D : va_G} {cI cZ : ClassId} {a0 : Nat} (σ : Nat → Nat → Int) (place : Int) (hp : -48 ≤ place ∧ place ≤ 100000) : moM l D cI cZ a0 yX12_slotOf cX12_slotOf 1 (some .int) 0 0 [.int (iz place)] σ (some (.int (iz ((place + 48) % 48)))) (σ) := by
  refine mo_start (by decide) rfl (Nat.le_of_ble_eq_true rfl) ?_
  intro p e s m args below meth c C K hr hlk
  refine hv_iload_n C 0 0 dX12_slotOf_0 rfl rfl ?_
  refine hv_bipush C dX12_slotOf_1 (by decide) ?_
  refine hv_iadd C dX12_slotOf_3 ?_
  refine hv_bipush C dX12_slotOf_4 (by decide) ?_
  refine hv_irem C (by omega) (by omega) (by omega) (by omega) dX12_slotOf_6 ?_
  exact mo_iret (Qc := fun _ _ _ _ => True) C hr hlk rfl rfl dX12_slotOf_7
theorem dX12_dayOf_0 : decode cX12_dayOf 0 = .ok (.iload_n 0, 1) := by decide +kernel
theorem dX12_dayOf_1 : decode cX12_dayOf 1 = .ok (.bipush 48, 2) := by decide +kernel
theorem dX12_dayOf_3 : decode cX12_dayOf 3 = .ok (.iadd, 1) := by decide +kernel
theorem dX12_dayOf_4 : decode cX12_dayOf 4 = .ok (.bipush 48, 2) := by decide +kernel
theorem dX12_dayOf_6 : decode cX12_dayOf 6 = .ok (.idiv, 1) := by decide +kernel
theorem dX12_dayOf_7 : decode cX12_dayOf 7 = .ok (.iconst 1, 1) := by decide +kernel
theorem dX12_dayOf_8 : decode cX12_dayOf 8 = .ok (.isub, 1) := by decide +kernel
theorem dX12_dayOf_9 : decode cX12_dayOf 9 = .ok (.ireturn, 1) := by decide +kernel
set_option maxRecDepth 100000 in
set_option maxHeartbeats 4000000 in
theorem k_dayOf (l : Launch) {D : va_G} {cI cZ : ClassId} {a0 : Nat} (σ : Nat → Nat → Int) (place : Int) (hp : -48 ≤ place ∧ place ≤ 100000) : moM l D cI cZ a0 yX12_dayOf cX12_dayOf 1 (some .int) 0 0 [.int (iz place)] σ (some (.int (iz (((place + 48) / 48) - 1)))) (σ) := by
  refine mo_start (by decide) rfl (Nat.le_of_ble_eq_true rfl) ?_
  intro p e s m args below meth c C K hr hlk
  refine hv_iload_n C 0 0 dX12_dayOf_0 rfl rfl ?_
  refine hv_bipush C dX12_dayOf_1 (by decide) ?_
  refine hv_iadd C dX12_dayOf_3 ?_
  refine hv_bipush C dX12_dayOf_4 (by decide) ?_
  refine hv_idiv C (by omega) (by omega) (by omega) (by omega) dX12_dayOf_6 ?_
  refine hv_iconst C dX12_dayOf_7 ?_
  refine hv_isub C dX12_dayOf_8 ?_
  exact mo_iret (Qc := fun _ _ _ _ => True) C hr hlk rfl rfl dX12_dayOf_9
theorem dX12_local_0 : decode cX12_local 0 = .ok (.iload_n 1, 1) := by decide +kernel
theorem dX12_local_1 : decode cX12_local 1 = .ok (.iconst 0, 1) := by decide +kernel
theorem dX12_local_2 : decode cX12_local 2 = .ok (.iconst 3, 1) := by decide +kernel
theorem dX12_local_3 : decode cX12_local 3 = .ok (.invokestatic 59, 3) := by decide +kernel
theorem dX12_local_6 : decode cX12_local 6 = .ok (.ifCond .eq 27, 3) := by decide +kernel
theorem dX12_local_9 : decode cX12_local 9 = .ok (.iload_n 2, 1) := by decide +kernel
theorem dX12_local_10 : decode cX12_local 10 = .ok (.invokestatic 75, 3) := by decide +kernel
theorem dX12_local_13 : decode cX12_local 13 = .ok (.ifCond .eq 20, 3) := by decide +kernel
theorem dX12_local_16 : decode cX12_local 16 = .ok (.iload_n 3, 1) := by decide +kernel
theorem dX12_local_17 : decode cX12_local 17 = .ok (.invokestatic 81, 3) := by decide +kernel
theorem dX12_local_20 : decode cX12_local 20 = .ok (.ifCond .eq 13, 3) := by decide +kernel
theorem dX12_local_23 : decode cX12_local 23 = .ok (.aload_n 0, 1) := by decide +kernel
theorem dX12_local_24 : decode cX12_local 24 = .ok (.iload_n 1, 1) := by decide +kernel
theorem dX12_local_25 : decode cX12_local 25 = .ok (.iload_n 2, 1) := by decide +kernel
theorem dX12_local_26 : decode cX12_local 26 = .ok (.iload_n 3, 1) := by decide +kernel
theorem dX12_local_27 : decode cX12_local 27 = .ok (.invokevirtual 84, 3) := by decide +kernel
theorem dX12_local_30 : decode cX12_local 30 = .ok (.goto 6, 3) := by decide +kernel
theorem dX12_local_33 : decode cX12_local 33 = .ok (.sipush (-1000), 3) := by decide +kernel
theorem dX12_local_36 : decode cX12_local 36 = .ok (.ireturn, 1) := by decide +kernel
set_option maxRecDepth 100000 in
set_option maxHeartbeats 4000000 in
theorem k_local (l : Launch) {D : va_G} {cI cZ : ClassId} {a0 : Nat} (σ : Nat → Nat → Int) (zone : Int) (day : Int) (slot : Int) (hσ : rg σ) (hc : cn (σ 1)) (r_zone : inI zone) (r_day : inI day) (r_slot : inI slot) : moM l D cI cZ a0 yX12_local cX12_local 4 (some .int) 3 67 [.ref a0, .int (iz zone), .int (iz day), .int (iz slot)] σ (some (.int (iz (if (0 ≤ zone ∧ zone ≤ 3) ∧ (0 ≤ day ∧ day ≤ 199) ∧ (0 ≤ slot ∧ slot ≤ 47) then lo (σ 1) zone.toNat day slot else -1000)))) (σ) := by
  refine mo_start (by decide) rfl (Nat.le_of_ble_eq_true rfl) ?_
  intro p e s m args below meth c C K hr hlk
  refine hv_iload_n C 1 1 dX12_local_0 rfl rfl ?_
  refine hv_iconst C dX12_local_1 ?_
  refine hv_iconst C dX12_local_2 ?_
  refine mo_callS [.int (iz zone), .int (iz 0), .int (iz 3)] [] C K (k_isIn l σ zone 0 3 (by omega) (by omega) (by omega)) ck_isIn (by decide) rfl (Nat.le_of_ble_eq_true rfl) dX12_local_3 ?_
  refine hv_dif_eq C 33 dX12_local_6 (by decide)  (fun h6 => ?_) (fun h6 => ?_)
  · skip
    refine hv_sipush C dX12_local_33 (by decide) ?_
    exact mo_iret (Qc := fun _ _ _ _ => True) C hr hlk (by first | exact if_n (by omega) rfl | (refine if_p (by omega) ?_; subst_vars; simp)) rfl dX12_local_36
  · skip
    refine hv_iload_n C 2 2 dX12_local_9 rfl rfl ?_
    refine mo_callS [.int (iz day)] [] C K (k_isDay l σ day (by omega)) ck_isDay (by decide) rfl (Nat.le_of_ble_eq_true rfl) dX12_local_10 ?_
    refine hv_dif_eq C 33 dX12_local_13 (by decide)  (fun h13 => ?_) (fun h13 => ?_)
    · skip
      refine hv_sipush C dX12_local_33 (by decide) ?_
      exact mo_iret (Qc := fun _ _ _ _ => True) C hr hlk (by first | exact if_n (by omega) rfl | (refine if_p (by omega) ?_; subst_vars; simp)) rfl dX12_local_36
    · skip
      refine hv_iload_n C 3 3 dX12_local_16 rfl rfl ?_
      refine mo_callS [.int (iz slot)] [] C K (k_isSlot l σ slot (by omega)) ck_isSlot (by decide) rfl (Nat.le_of_ble_eq_true rfl) dX12_local_17 ?_
      refine hv_dif_eq C 33 dX12_local_20 (by decide)  (fun h20 => ?_) (fun h20 => ?_)
      · skip
        refine hv_sipush C dX12_local_33 (by decide) ?_
        exact mo_iret (Qc := fun _ _ _ _ => True) C hr hlk (by first | exact if_n (by omega) rfl | (refine if_p (by omega) ?_; subst_vars; simp)) rfl dX12_local_36
      · skip
        obtain ⟨zn, rfl⟩ : ∃ n : Nat, zone = (n : Int) := ⟨(zone).toNat, by omega⟩
        refine hv_aload_n C 0 0 dX12_local_23 rfl rfl ?_
        refine hv_iload_n C 1 1 dX12_local_24 rfl rfl ?_
        refine hv_iload_n C 2 2 dX12_local_25 rfl rfl ?_
        refine hv_iload_n C 3 3 dX12_local_26 rfl rfl ?_
        refine mo_call [.int (iz ((zn : Nat) : Int)), .int (iz day), .int (iz slot)] [] C K (k_localOf l σ zn day slot hσ (by omega) (by omega)) ck_localOf (by decide) rfl (Nat.le_of_ble_eq_true rfl) dX12_local_27 ?_
        refine hv_nm (fun x1 ex1 => ?_)
        refine hv_goto C 36 dX12_local_30 (by decide) ?_
        exact mo_iret (Qc := fun _ _ _ _ => True) C hr hlk (by first | exact if_n (by omega) rfl | (refine if_p (by omega) ?_; subst_vars; simp)) rfl dX12_local_36
theorem dX12_day_0 : decode cX12_day 0 = .ok (.iload_n 1, 1) := by decide +kernel
theorem dX12_day_1 : decode cX12_day 1 = .ok (.aload_n 0, 1) := by decide +kernel
theorem dX12_day_2 : decode cX12_day 2 = .ok (.getfield 7, 3) := by decide +kernel
theorem dX12_day_5 : decode cX12_day 5 = .ok (.bipush 8, 2) := by decide +kernel
theorem dX12_day_7 : decode cX12_day 7 = .ok (.iaload, 1) := by decide +kernel
theorem dX12_day_8 : decode cX12_day 8 = .ok (.sipush 199, 3) := by decide +kernel
theorem dX12_day_11 : decode cX12_day 11 = .ok (.invokestatic 59, 3) := by decide +kernel
theorem dX12_day_14 : decode cX12_day 14 = .ok (.ifCond .ne 5, 3) := by decide +kernel
theorem dX12_day_17 : decode cX12_day 17 = .ok (.iconst 0, 1) := by decide +kernel
theorem dX12_day_18 : decode cX12_day 18 = .ok (.ireturn, 1) := by decide +kernel
theorem dX12_day_19 : decode cX12_day 19 = .ok (.aload_n 0, 1) := by decide +kernel
theorem dX12_day_20 : decode cX12_day 20 = .ok (.getfield 7, 3) := by decide +kernel
theorem dX12_day_23 : decode cX12_day 23 = .ok (.bipush 8, 2) := by decide +kernel
theorem dX12_day_25 : decode cX12_day 25 = .ok (.iload_n 1, 1) := by decide +kernel
theorem dX12_day_26 : decode cX12_day 26 = .ok (.iastore, 1) := by decide +kernel
theorem dX12_day_27 : decode cX12_day 27 = .ok (.iconst 1, 1) := by decide +kernel
theorem dX12_day_28 : decode cX12_day 28 = .ok (.ireturn, 1) := by decide +kernel
set_option maxRecDepth 100000 in
set_option maxHeartbeats 4000000 in
theorem k_day (l : Launch) {D : va_G} {cI cZ : ClassId} {a0 : Nat} (σ : Nat → Nat → Int) (d : Int) (hσ : rg σ) (hc : cn (σ 1)) (r_d : inI d) : moM l D cI cZ a0 yX12_day cX12_day 2 (some .boolean) 1 22 [.ref a0, .int (iz d)] σ (some (.int (iz (xb (decide ((σ 1 8 ≤ d ∧ d ≤ 199))))))) (if (σ 1 8 ≤ d ∧ d ≤ 199) then sA σ 1 (ua (σ 1) 8 d) else σ) := by
  refine mo_start (by decide) rfl (Nat.le_of_ble_eq_true rfl) ?_
  intro p e s m args below meth c C K hr hlk
  refine hv_iload_n C 1 1 dX12_day_0 rfl rfl ?_
  refine hv_aload_n C 0 0 dX12_day_1 rfl rfl ?_
  refine mo_geta C K 0 1 (by decide) rfl mo_hw fl_7 rfl dX12_day_2 ?_
  refine hv_bipush C dX12_day_5 (by decide) ?_
  refine mo_iald C K 1 9040 8 rfl (by omega) (by omega) (by decide) dX12_day_7 ?_
  refine hv_nm (fun x1 ex1 => ?_)
  have rx1 : inI x1 := by rw [ex1]; exact hσ 1 8
  refine hv_sipush C dX12_day_8 (by decide) ?_
  refine mo_callS [.int (iz d), .int (iz x1), .int (iz 199)] [] C K (k_isIn l σ d x1 199 (by omega) (by omega) (by omega)) ck_isIn (by decide) rfl (Nat.le_of_ble_eq_true rfl) dX12_day_11 ?_
  refine hv_dif_ne C 19 dX12_day_14 (by decide)  (fun h14 => ?_) (fun h14 => ?_)
  · skip
    refine hv_aload_n C 0 0 dX12_day_19 rfl rfl ?_
    refine mo_geta C K 0 1 (by decide) rfl mo_hw fl_7 rfl dX12_day_20 ?_
    refine hv_bipush C dX12_day_23 (by decide) ?_
    refine hv_iload_n C 1 1 dX12_day_25 rfl rfl ?_
    refine mo_iast C K 1 9040 8 rfl (moW_set1 _ _ _ _ _ _) (by omega) (by omega) (by decide) dX12_day_26 ?_
    refine hv_iconst C dX12_day_27 ?_
    exact mo_zret (Qc := fun _ _ _ _ => True) C hr hlk ((xb_t (decide_eq_true (by omega))).symm) (by first | exact if_n (by omega) rfl | exact if_p (by omega) rfl | (refine if_p (by omega) ?_; simp only [u2_sA, sA_sA, sA_at, Int.toNat_natCast])) dX12_day_28
  · skip
    refine hv_iconst C dX12_day_17 ?_
    exact mo_zret (Qc := fun _ _ _ _ => True) C hr hlk ((xb_f (decide_eq_false (by omega))).symm) (by first | exact if_n (by omega) rfl | exact if_p (by omega) rfl | (refine if_p (by omega) ?_; simp only [u2_sA, sA_sA, sA_at, Int.toNat_natCast])) dX12_day_18
theorem dX12_view_0 : decode cX12_view 0 = .ok (.iload_n 1, 1) := by decide +kernel
theorem dX12_view_1 : decode cX12_view 1 = .ok (.iconst (-1), 1) := by decide +kernel
theorem dX12_view_2 : decode cX12_view 2 = .ok (.if_icmp .eq 20, 3) := by decide +kernel
theorem dX12_view_5 : decode cX12_view 5 = .ok (.iload_n 1, 1) := by decide +kernel
theorem dX12_view_6 : decode cX12_view 6 = .ok (.iconst 0, 1) := by decide +kernel
theorem dX12_view_7 : decode cX12_view 7 = .ok (.aload_n 0, 1) := by decide +kernel
theorem dX12_view_8 : decode cX12_view 8 = .ok (.getfield 7, 3) := by decide +kernel
theorem dX12_view_11 : decode cX12_view 11 = .ok (.bipush 8, 2) := by decide +kernel
theorem dX12_view_13 : decode cX12_view 13 = .ok (.iaload, 1) := by decide +kernel
theorem dX12_view_14 : decode cX12_view 14 = .ok (.invokestatic 59, 3) := by decide +kernel
theorem dX12_view_17 : decode cX12_view 17 = .ok (.ifCond .ne 5, 3) := by decide +kernel
theorem dX12_view_20 : decode cX12_view 20 = .ok (.iconst 0, 1) := by decide +kernel
theorem dX12_view_21 : decode cX12_view 21 = .ok (.ireturn, 1) := by decide +kernel
theorem dX12_view_22 : decode cX12_view 22 = .ok (.aload_n 0, 1) := by decide +kernel
theorem dX12_view_23 : decode cX12_view 23 = .ok (.getfield 7, 3) := by decide +kernel
theorem dX12_view_26 : decode cX12_view 26 = .ok (.bipush 9, 2) := by decide +kernel
theorem dX12_view_28 : decode cX12_view 28 = .ok (.iload_n 1, 1) := by decide +kernel
theorem dX12_view_29 : decode cX12_view 29 = .ok (.iastore, 1) := by decide +kernel
theorem dX12_view_30 : decode cX12_view 30 = .ok (.iconst 1, 1) := by decide +kernel
theorem dX12_view_31 : decode cX12_view 31 = .ok (.ireturn, 1) := by decide +kernel
set_option maxRecDepth 100000 in
set_option maxHeartbeats 4000000 in
theorem k_view (l : Launch) {D : va_G} {cI cZ : ClassId} {a0 : Nat} (σ : Nat → Nat → Int) (d : Int) (hσ : rg σ) (hc : cn (σ 1)) (r_d : inI d) : moM l D cI cZ a0 yX12_view cX12_view 2 (some .boolean) 1 22 [.ref a0, .int (iz d)] σ (some (.int (iz (xb (decide ((d = -1 ∨ (0 ≤ d ∧ d ≤ σ 1 8)))))))) (if (d = -1 ∨ (0 ≤ d ∧ d ≤ σ 1 8)) then sA σ 1 (ua (σ 1) 9 d) else σ) := by
  refine mo_start (by decide) rfl (Nat.le_of_ble_eq_true rfl) ?_
  intro p e s m args below meth c C K hr hlk
  refine hv_iload_n C 1 1 dX12_view_0 rfl rfl ?_
  refine hv_iconst C dX12_view_1 ?_
  refine hv_icmp_eq C 22 dX12_view_2 (by decide) (by omega) (by omega) (fun h2 => ?_) (fun h2 => ?_)
  · skip
    refine hv_aload_n C 0 0 dX12_view_22 rfl rfl ?_
    refine mo_geta C K 0 1 (by decide) rfl mo_hw fl_7 rfl dX12_view_23 ?_
    refine hv_bipush C dX12_view_26 (by decide) ?_
    refine hv_iload_n C 1 1 dX12_view_28 rfl rfl ?_
    refine mo_iast C K 1 9040 9 rfl (moW_set1 _ _ _ _ _ _) (by omega) (by omega) (by decide) dX12_view_29 ?_
    refine hv_iconst C dX12_view_30 ?_
    exact mo_zret (Qc := fun _ _ _ _ => True) C hr hlk ((xb_t (decide_eq_true (by omega))).symm) (by first | exact if_n (by omega) rfl | exact if_p (by omega) rfl | (refine if_p (by omega) ?_; simp only [u2_sA, sA_sA, sA_at, Int.toNat_natCast])) dX12_view_31
  · skip
    refine hv_iload_n C 1 1 dX12_view_5 rfl rfl ?_
    refine hv_iconst C dX12_view_6 ?_
    refine hv_aload_n C 0 0 dX12_view_7 rfl rfl ?_
    refine mo_geta C K 0 1 (by decide) rfl mo_hw fl_7 rfl dX12_view_8 ?_
    refine hv_bipush C dX12_view_11 (by decide) ?_
    refine mo_iald C K 1 9040 8 rfl (by omega) (by omega) (by decide) dX12_view_13 ?_
    refine hv_nm (fun x1 ex1 => ?_)
    have rx1 : inI x1 := by rw [ex1]; exact hσ 1 8
    refine mo_callS [.int (iz d), .int (iz 0), .int (iz x1)] [] C K (k_isIn l σ d 0 x1 (by omega) (by omega) (by omega)) ck_isIn (by decide) rfl (Nat.le_of_ble_eq_true rfl) dX12_view_14 ?_
    refine hv_dif_ne C 22 dX12_view_17 (by decide)  (fun h17 => ?_) (fun h17 => ?_)
    · skip
      refine hv_aload_n C 0 0 dX12_view_22 rfl rfl ?_
      refine mo_geta C K 0 1 (by decide) rfl mo_hw fl_7 rfl dX12_view_23 ?_
      refine hv_bipush C dX12_view_26 (by decide) ?_
      refine hv_iload_n C 1 1 dX12_view_28 rfl rfl ?_
      refine mo_iast C K 1 9040 9 rfl (moW_set1 _ _ _ _ _ _) (by omega) (by omega) (by decide) dX12_view_29 ?_
      refine hv_iconst C dX12_view_30 ?_
      exact mo_zret (Qc := fun _ _ _ _ => True) C hr hlk ((xb_t (decide_eq_true (by omega))).symm) (by first | exact if_n (by omega) rfl | exact if_p (by omega) rfl | (refine if_p (by omega) ?_; simp only [u2_sA, sA_sA, sA_at, Int.toNat_natCast])) dX12_view_31
    · skip
      refine hv_iconst C dX12_view_20 ?_
      exact mo_zret (Qc := fun _ _ _ _ => True) C hr hlk ((xb_f (decide_eq_false (by omega))).symm) (by first | exact if_n (by omega) rfl | exact if_p (by omega) rfl | (refine if_p (by omega) ?_; simp only [u2_sA, sA_sA, sA_at, Int.toNat_natCast])) dX12_view_21
theorem dX12_join_0 : decode cX12_join 0 = .ok (.aload_n 0, 1) := by decide +kernel
theorem dX12_join_1 : decode cX12_join 1 = .ok (.getfield 7, 3) := by decide +kernel
theorem dX12_join_4 : decode cX12_join 4 = .ok (.iconst 3, 1) := by decide +kernel
theorem dX12_join_5 : decode cX12_join 5 = .ok (.iaload, 1) := by decide +kernel
theorem dX12_join_6 : decode cX12_join 6 = .ok (.bipush 40, 2) := by decide +kernel
theorem dX12_join_8 : decode cX12_join 8 = .ok (.if_icmp .eq 28, 3) := by decide +kernel
theorem dX12_join_11 : decode cX12_join 11 = .ok (.aload_n 0, 1) := by decide +kernel
theorem dX12_join_12 : decode cX12_join 12 = .ok (.iload_n 1, 1) := by decide +kernel
theorem dX12_join_13 : decode cX12_join 13 = .ok (.iconst 2, 1) := by decide +kernel
theorem dX12_join_14 : decode cX12_join 14 = .ok (.invokevirtual 63, 3) := by decide +kernel
theorem dX12_join_17 : decode cX12_join 17 = .ok (.ifCond .eq 19, 3) := by decide +kernel
theorem dX12_join_20 : decode cX12_join 20 = .ok (.iload_n 2, 1) := by decide +kernel
theorem dX12_join_21 : decode cX12_join 21 = .ok (.iconst (-1), 1) := by decide +kernel
theorem dX12_join_22 : decode cX12_join 22 = .ok (.iconst 2, 1) := by decide +kernel
theorem dX12_join_23 : decode cX12_join 23 = .ok (.invokestatic 59, 3) := by decide +kernel
theorem dX12_join_26 : decode cX12_join 26 = .ok (.ifCond .eq 10, 3) := by decide +kernel
theorem dX12_join_29 : decode cX12_join 29 = .ok (.iload_n 3, 1) := by decide +kernel
theorem dX12_join_30 : decode cX12_join 30 = .ok (.invokestatic 75, 3) := by decide +kernel
theorem dX12_join_33 : decode cX12_join 33 = .ok (.ifCond .ne 5, 3) := by decide +kernel
theorem dX12_join_36 : decode cX12_join 36 = .ok (.iconst 0, 1) := by decide +kernel
theorem dX12_join_37 : decode cX12_join 37 = .ok (.ireturn, 1) := by decide +kernel
theorem dX12_join_38 : decode cX12_join 38 = .ok (.bipush 120, 2) := by decide +kernel
theorem dX12_join_40 : decode cX12_join 40 = .ok (.iconst 4, 1) := by decide +kernel
theorem dX12_join_41 : decode cX12_join 41 = .ok (.aload_n 0, 1) := by decide +kernel
theorem dX12_join_42 : decode cX12_join 42 = .ok (.getfield 7, 3) := by decide +kernel
theorem dX12_join_45 : decode cX12_join 45 = .ok (.iconst 3, 1) := by decide +kernel
theorem dX12_join_46 : decode cX12_join 46 = .ok (.iaload, 1) := by decide +kernel
theorem dX12_join_47 : decode cX12_join 47 = .ok (.imul, 1) := by decide +kernel
theorem dX12_join_48 : decode cX12_join 48 = .ok (.iadd, 1) := by decide +kernel
theorem dX12_join_49 : decode cX12_join 49 = .ok (.istore 4, 2) := by decide +kernel
theorem dX12_join_51 : decode cX12_join 51 = .ok (.aload_n 0, 1) := by decide +kernel
theorem dX12_join_52 : decode cX12_join 52 = .ok (.getfield 7, 3) := by decide +kernel
theorem dX12_join_55 : decode cX12_join 55 = .ok (.iload 4, 2) := by decide +kernel
theorem dX12_join_57 : decode cX12_join 57 = .ok (.iload_n 1, 1) := by decide +kernel
theorem dX12_join_58 : decode cX12_join 58 = .ok (.iastore, 1) := by decide +kernel
theorem dX12_join_59 : decode cX12_join 59 = .ok (.aload_n 0, 1) := by decide +kernel
theorem dX12_join_60 : decode cX12_join 60 = .ok (.getfield 7, 3) := by decide +kernel
theorem dX12_join_63 : decode cX12_join 63 = .ok (.iload 4, 2) := by decide +kernel
theorem dX12_join_65 : decode cX12_join 65 = .ok (.iconst 1, 1) := by decide +kernel
theorem dX12_join_66 : decode cX12_join 66 = .ok (.iadd, 1) := by decide +kernel
theorem dX12_join_67 : decode cX12_join 67 = .ok (.iload_n 2, 1) := by decide +kernel
theorem dX12_join_68 : decode cX12_join 68 = .ok (.iastore, 1) := by decide +kernel
theorem dX12_join_69 : decode cX12_join 69 = .ok (.aload_n 0, 1) := by decide +kernel
theorem dX12_join_70 : decode cX12_join 70 = .ok (.getfield 7, 3) := by decide +kernel
theorem dX12_join_73 : decode cX12_join 73 = .ok (.iload 4, 2) := by decide +kernel
theorem dX12_join_75 : decode cX12_join 75 = .ok (.iconst 2, 1) := by decide +kernel
theorem dX12_join_76 : decode cX12_join 76 = .ok (.iadd, 1) := by decide +kernel
theorem dX12_join_77 : decode cX12_join 77 = .ok (.iload_n 3, 1) := by decide +kernel
theorem dX12_join_78 : decode cX12_join 78 = .ok (.iastore, 1) := by decide +kernel
theorem dX12_join_79 : decode cX12_join 79 = .ok (.aload_n 0, 1) := by decide +kernel
theorem dX12_join_80 : decode cX12_join 80 = .ok (.getfield 7, 3) := by decide +kernel
theorem dX12_join_83 : decode cX12_join 83 = .ok (.iload 4, 2) := by decide +kernel
theorem dX12_join_85 : decode cX12_join 85 = .ok (.iconst 3, 1) := by decide +kernel
theorem dX12_join_86 : decode cX12_join 86 = .ok (.iadd, 1) := by decide +kernel
theorem dX12_join_87 : decode cX12_join 87 = .ok (.aload_n 0, 1) := by decide +kernel
theorem dX12_join_88 : decode cX12_join 88 = .ok (.getfield 7, 3) := by decide +kernel
theorem dX12_join_91 : decode cX12_join 91 = .ok (.bipush 8, 2) := by decide +kernel
theorem dX12_join_93 : decode cX12_join 93 = .ok (.iaload, 1) := by decide +kernel
theorem dX12_join_94 : decode cX12_join 94 = .ok (.iastore, 1) := by decide +kernel
theorem dX12_join_95 : decode cX12_join 95 = .ok (.aload_n 0, 1) := by decide +kernel
theorem dX12_join_96 : decode cX12_join 96 = .ok (.getfield 7, 3) := by decide +kernel
theorem dX12_join_99 : decode cX12_join 99 = .ok (.iconst 3, 1) := by decide +kernel
theorem dX12_join_100 : decode cX12_join 100 = .ok (.dup2, 1) := by decide +kernel
theorem dX12_join_101 : decode cX12_join 101 = .ok (.iaload, 1) := by decide +kernel
theorem dX12_join_102 : decode cX12_join 102 = .ok (.iconst 1, 1) := by decide +kernel
theorem dX12_join_103 : decode cX12_join 103 = .ok (.iadd, 1) := by decide +kernel
theorem dX12_join_104 : decode cX12_join 104 = .ok (.iastore, 1) := by decide +kernel
theorem dX12_join_105 : decode cX12_join 105 = .ok (.iconst 1, 1) := by decide +kernel
theorem dX12_join_106 : decode cX12_join 106 = .ok (.ireturn, 1) := by decide +kernel
set_option maxRecDepth 100000 in
set_option maxHeartbeats 4000000 in
theorem k_join (l : Launch) {D : va_G} {cI cZ : ClassId} {a0 : Nat} (σ : Nat → Nat → Int) (station : Int) (network : Int) (fr : Int) (hσ : rg σ) (hc : cn (σ 1)) (r_station : inI station) (r_network : inI network) (r_fr : inI fr) : moM l D cI cZ a0 yX12_join cX12_join 5 (some .boolean) 2 44 [.ref a0, .int (iz station), .int (iz network), .int (iz fr)] σ (some (.int (iz (xb (decide (ok_join (σ 1) station network fr)))))) (if ok_join (σ 1) station network fr then sA σ 1 (do_join (σ 1) station network fr) else σ) := by
  refine mo_start (by decide) rfl (Nat.le_of_ble_eq_true rfl) ?_
  intro p e s m args below meth c C K hr hlk
  refine hv_aload_n C 0 0 dX12_join_0 rfl rfl ?_
  refine mo_geta C K 0 1 (by decide) rfl mo_hw fl_7 rfl dX12_join_1 ?_
  refine hv_iconst C dX12_join_4 ?_
  refine mo_iald C K 1 9040 3 rfl (by omega) (by omega) (by decide) dX12_join_5 ?_
  refine hv_nm (fun x1 ex1 => ?_)
  have rx1 : inI x1 := by rw [ex1]; exact hσ 1 3
  refine hv_bipush C dX12_join_6 (by decide) ?_
  refine hv_icmp_eq C 36 dX12_join_8 (by decide) (by omega) (by omega) (fun h8 => ?_) (fun h8 => ?_)
  · skip
    refine hv_iconst C dX12_join_36 ?_
    exact mo_zret (Qc := fun _ _ _ _ => True) C hr hlk ((xb_f (decide_eq_false (by omega))).symm) (by first | exact if_n (by omega) rfl | (refine if_p (by omega) ?_; subst_vars; have hq : (σ 1 3).toNat = n1 := (by omega); simp only [u2_sA, sA_sA, sA_at, do_join, hq]; congr 2 <;> first | rfl | (simp [ua]; omega) | (congr 1; simp [ua]; omega))) dX12_join_37
  · skip
    refine hv_aload_n C 0 0 dX12_join_11 rfl rfl ?_
    refine hv_iload_n C 1 1 dX12_join_12 rfl rfl ?_
    refine hv_iconst C dX12_join_13 ?_
    refine mo_call [.int (iz station), .int (iz 2)] [] C K (k_isOf l σ station 2 hσ (by omega) (by omega) (by omega)) ck_isOf (by decide) rfl (Nat.le_of_ble_eq_true rfl) dX12_join_14 ?_
    refine hv_dif_eq C 36 dX12_join_17 (by decide)  (fun h17 => ?_) (fun h17 => ?_)
    · skip
      refine hv_iconst C dX12_join_36 ?_
      exact mo_zret (Qc := fun _ _ _ _ => True) C hr hlk ((xb_f (decide_eq_false (by omega))).symm) (by first | exact if_n (by omega) rfl | (refine if_p (by omega) ?_; subst_vars; have hq : (σ 1 3).toNat = n1 := (by omega); simp only [u2_sA, sA_sA, sA_at, do_join, hq]; congr 2 <;> first | rfl | (simp [ua]; omega) | (congr 1; simp [ua]; omega))) dX12_join_37
    · skip
      refine hv_iload_n C 2 2 dX12_join_20 rfl rfl ?_
      refine hv_iconst C dX12_join_21 ?_
      refine hv_iconst C dX12_join_22 ?_
      refine mo_callS [.int (iz network), .int (iz (-1)), .int (iz 2)] [] C K (k_isIn l σ network (-1) 2 (by omega) (by omega) (by omega)) ck_isIn (by decide) rfl (Nat.le_of_ble_eq_true rfl) dX12_join_23 ?_
      refine hv_dif_eq C 36 dX12_join_26 (by decide)  (fun h26 => ?_) (fun h26 => ?_)
      · skip
        refine hv_iconst C dX12_join_36 ?_
        exact mo_zret (Qc := fun _ _ _ _ => True) C hr hlk ((xb_f (decide_eq_false (by omega))).symm) (by first | exact if_n (by omega) rfl | (refine if_p (by omega) ?_; subst_vars; have hq : (σ 1 3).toNat = n1 := (by omega); simp only [u2_sA, sA_sA, sA_at, do_join, hq]; congr 2 <;> first | rfl | (simp [ua]; omega) | (congr 1; simp [ua]; omega))) dX12_join_37
      · skip
        refine hv_iload_n C 3 3 dX12_join_29 rfl rfl ?_
        refine mo_callS [.int (iz fr)] [] C K (k_isDay l σ fr (by omega)) ck_isDay (by decide) rfl (Nat.le_of_ble_eq_true rfl) dX12_join_30 ?_
        refine hv_dif_ne C 38 dX12_join_33 (by decide)  (fun h33 => ?_) (fun h33 => ?_)
        · skip
          refine hv_bipush C dX12_join_38 (by decide) ?_
          refine hv_iconst C dX12_join_40 ?_
          refine hv_aload_n C 0 0 dX12_join_41 rfl rfl ?_
          refine mo_geta C K 0 1 (by decide) rfl mo_hw fl_7 rfl dX12_join_42 ?_
          refine hv_iconst C dX12_join_45 ?_
          refine mo_iald C K 1 9040 3 rfl (by omega) (by omega) (by decide) dX12_join_46 ?_
          refine hv_nm (fun x2 ex2 => ?_)
          have rx2 : inI x2 := by rw [ex2]; exact hσ 1 3
          obtain ⟨n1, rfl⟩ : ∃ n : Nat, x2 = (n : Int) := ⟨(x2).toNat, by omega⟩
          refine hv_imul C dX12_join_47 ?_
          refine hv_iadd C dX12_join_48 ?_
          refine hv_istore C 4 [(4, .int (iz (120 + (4 * ((n1 : Nat) : Int))))), (0, .ref a0), (1, .int (iz station)), (2, .int (iz network)), (3, .int (iz fr))] dX12_join_49 (by decide) rfl ?_
          refine hv_aload_n C 0 1 dX12_join_51 rfl rfl ?_
          refine mo_geta C K 0 1 (by decide) rfl mo_hw fl_7 rfl dX12_join_52 ?_
          refine hv_iload C 4 0 dX12_join_55 rfl ?_
          refine hv_iload_n C 1 2 dX12_join_57 rfl rfl ?_
          refine mo_iast C K 1 9040 (120 + (4 * n1)) rfl (moW_set1 _ _ _ _ _ _) (by omega) (by omega) (by decide) dX12_join_58 ?_
          refine hv_aload_n C 0 1 dX12_join_59 rfl rfl ?_
          refine mo_geta C K 0 1 (by decide) rfl mo_hw fl_7 rfl dX12_join_60 ?_
          refine hv_iload C 4 0 dX12_join_63 rfl ?_
          refine hv_iconst C dX12_join_65 ?_
          refine hv_iadd C dX12_join_66 ?_
          refine hv_iload_n C 2 3 dX12_join_67 rfl rfl ?_
          refine mo_iast C K 1 9040 ((120 + (4 * n1)) + 1) rfl (moW_set1 _ _ _ _ _ _) (by omega) (by omega) (by decide) dX12_join_68 ?_
          refine hv_aload_n C 0 1 dX12_join_69 rfl rfl ?_
          refine mo_geta C K 0 1 (by decide) rfl mo_hw fl_7 rfl dX12_join_70 ?_
          refine hv_iload C 4 0 dX12_join_73 rfl ?_
          refine hv_iconst C dX12_join_75 ?_
          refine hv_iadd C dX12_join_76 ?_
          refine hv_iload_n C 3 4 dX12_join_77 rfl rfl ?_
          refine mo_iast C K 1 9040 ((120 + (4 * n1)) + 2) rfl (moW_set1 _ _ _ _ _ _) (by omega) (by omega) (by decide) dX12_join_78 ?_
          refine hv_aload_n C 0 1 dX12_join_79 rfl rfl ?_
          refine mo_geta C K 0 1 (by decide) rfl mo_hw fl_7 rfl dX12_join_80 ?_
          refine hv_iload C 4 0 dX12_join_83 rfl ?_
          refine hv_iconst C dX12_join_85 ?_
          refine hv_iadd C dX12_join_86 ?_
          refine hv_aload_n C 0 1 dX12_join_87 rfl rfl ?_
          refine mo_geta C K 0 1 (by decide) rfl mo_hw fl_7 rfl dX12_join_88 ?_
          refine hv_bipush C dX12_join_91 (by decide) ?_
          refine mo_iald C K 1 9040 8 rfl (by omega) (by omega) (by decide) dX12_join_93 ?_
          refine hv_nm (fun x3 ex3 => ?_)
          refine mo_iast C K 1 9040 ((120 + (4 * n1)) + 3) rfl (moW_set1 _ _ _ _ _ _) (by omega) (by omega) (by decide) dX12_join_94 ?_
          refine hv_aload_n C 0 1 dX12_join_95 rfl rfl ?_
          refine mo_geta C K 0 1 (by decide) rfl mo_hw fl_7 rfl dX12_join_96 ?_
          refine hv_iconst C dX12_join_99 ?_
          refine hv_dup2 C dX12_join_100 rfl rfl ?_
          refine mo_iald C K 1 9040 3 rfl (by omega) (by omega) (by decide) dX12_join_101 ?_
          refine hv_nm (fun x4 ex4 => ?_)
          refine hv_iconst C dX12_join_102 ?_
          refine hv_iadd C dX12_join_103 ?_
          refine mo_iast C K 1 9040 3 rfl (moW_set1 _ _ _ _ _ _) (by omega) (by omega) (by decide) dX12_join_104 ?_
          refine hv_iconst C dX12_join_105 ?_
          exact mo_zret (Qc := fun _ _ _ _ => True) C hr hlk ((xb_t (decide_eq_true (by omega))).symm) (by first | exact if_n (by omega) rfl | (refine if_p (by omega) ?_; subst_vars; have hq : (σ 1 3).toNat = n1 := (by omega); simp only [u2_sA, sA_sA, sA_at, do_join, hq]; congr 2 <;> first | rfl | (simp [ua]; omega) | (congr 1; simp [ua]; omega))) dX12_join_106
        · skip
          refine hv_iconst C dX12_join_36 ?_
          exact mo_zret (Qc := fun _ _ _ _ => True) C hr hlk ((xb_f (decide_eq_false (by omega))).symm) (by first | exact if_n (by omega) rfl | (refine if_p (by omega) ?_; subst_vars; have hq : (σ 1 3).toNat = n1 := (by omega); simp only [u2_sA, sA_sA, sA_at, do_join, hq]; congr 2 <;> first | rfl | (simp [ua]; omega) | (congr 1; simp [ua]; omega))) dX12_join_37
theorem dX12_cut_0 : decode cX12_cut 0 = .ok (.aload_n 0, 1) := by decide +kernel
theorem dX12_cut_1 : decode cX12_cut 1 = .ok (.getfield 7, 3) := by decide +kernel
theorem dX12_cut_4 : decode cX12_cut 4 = .ok (.iconst 5, 1) := by decide +kernel
theorem dX12_cut_5 : decode cX12_cut 5 = .ok (.iaload, 1) := by decide +kernel
theorem dX12_cut_6 : decode cX12_cut 6 = .ok (.bipush 24, 2) := by decide +kernel
theorem dX12_cut_8 : decode cX12_cut 8 = .ok (.if_icmp .eq 53, 3) := by decide +kernel
theorem dX12_cut_11 : decode cX12_cut 11 = .ok (.iload_n 1, 1) := by decide +kernel
theorem dX12_cut_12 : decode cX12_cut 12 = .ok (.iconst (-1), 1) := by decide +kernel
theorem dX12_cut_13 : decode cX12_cut 13 = .ok (.if_icmp .eq 12, 3) := by decide +kernel
theorem dX12_cut_16 : decode cX12_cut 16 = .ok (.aload_n 0, 1) := by decide +kernel
theorem dX12_cut_17 : decode cX12_cut 17 = .ok (.iload_n 1, 1) := by decide +kernel
theorem dX12_cut_18 : decode cX12_cut 18 = .ok (.iconst 2, 1) := by decide +kernel
theorem dX12_cut_19 : decode cX12_cut 19 = .ok (.invokevirtual 63, 3) := by decide +kernel
theorem dX12_cut_22 : decode cX12_cut 22 = .ok (.ifCond .eq 39, 3) := by decide +kernel
theorem dX12_cut_25 : decode cX12_cut 25 = .ok (.iload_n 2, 1) := by decide +kernel
theorem dX12_cut_26 : decode cX12_cut 26 = .ok (.invokestatic 75, 3) := by decide +kernel
theorem dX12_cut_29 : decode cX12_cut 29 = .ok (.ifCond .eq 32, 3) := by decide +kernel
theorem dX12_cut_32 : decode cX12_cut 32 = .ok (.iload_n 3, 1) := by decide +kernel
theorem dX12_cut_33 : decode cX12_cut 33 = .ok (.invokestatic 81, 3) := by decide +kernel
theorem dX12_cut_36 : decode cX12_cut 36 = .ok (.ifCond .eq 25, 3) := by decide +kernel
theorem dX12_cut_39 : decode cX12_cut 39 = .ok (.iload 4, 2) := by decide +kernel
theorem dX12_cut_41 : decode cX12_cut 41 = .ok (.iload_n 3, 1) := by decide +kernel
theorem dX12_cut_42 : decode cX12_cut 42 = .ok (.bipush 47, 2) := by decide +kernel
theorem dX12_cut_44 : decode cX12_cut 44 = .ok (.invokestatic 59, 3) := by decide +kernel
theorem dX12_cut_47 : decode cX12_cut 47 = .ok (.ifCond .eq 14, 3) := by decide +kernel
theorem dX12_cut_50 : decode cX12_cut 50 = .ok (.iload 5, 2) := by decide +kernel
theorem dX12_cut_52 : decode cX12_cut 52 = .ok (.iconst 0, 1) := by decide +kernel
theorem dX12_cut_53 : decode cX12_cut 53 = .ok (.bipush 9, 2) := by decide +kernel
theorem dX12_cut_55 : decode cX12_cut 55 = .ok (.invokestatic 59, 3) := by decide +kernel
theorem dX12_cut_58 : decode cX12_cut 58 = .ok (.ifCond .ne 5, 3) := by decide +kernel
theorem dX12_cut_61 : decode cX12_cut 61 = .ok (.iconst (-1), 1) := by decide +kernel
theorem dX12_cut_62 : decode cX12_cut 62 = .ok (.ireturn, 1) := by decide +kernel
theorem dX12_cut_63 : decode cX12_cut 63 = .ok (.sipush 480, 3) := by decide +kernel
theorem dX12_cut_66 : decode cX12_cut 66 = .ok (.bipush 6, 2) := by decide +kernel
theorem dX12_cut_68 : decode cX12_cut 68 = .ok (.aload_n 0, 1) := by decide +kernel
theorem dX12_cut_69 : decode cX12_cut 69 = .ok (.getfield 7, 3) := by decide +kernel
theorem dX12_cut_72 : decode cX12_cut 72 = .ok (.iconst 5, 1) := by decide +kernel
theorem dX12_cut_73 : decode cX12_cut 73 = .ok (.iaload, 1) := by decide +kernel
theorem dX12_cut_74 : decode cX12_cut 74 = .ok (.imul, 1) := by decide +kernel
theorem dX12_cut_75 : decode cX12_cut 75 = .ok (.iadd, 1) := by decide +kernel
theorem dX12_cut_76 : decode cX12_cut 76 = .ok (.istore 6, 2) := by decide +kernel
theorem dX12_cut_78 : decode cX12_cut 78 = .ok (.aload_n 0, 1) := by decide +kernel
theorem dX12_cut_79 : decode cX12_cut 79 = .ok (.getfield 7, 3) := by decide +kernel
theorem dX12_cut_82 : decode cX12_cut 82 = .ok (.iload 6, 2) := by decide +kernel
theorem dX12_cut_84 : decode cX12_cut 84 = .ok (.iload_n 1, 1) := by decide +kernel
theorem dX12_cut_85 : decode cX12_cut 85 = .ok (.iastore, 1) := by decide +kernel
theorem dX12_cut_86 : decode cX12_cut 86 = .ok (.aload_n 0, 1) := by decide +kernel
theorem dX12_cut_87 : decode cX12_cut 87 = .ok (.getfield 7, 3) := by decide +kernel
theorem dX12_cut_90 : decode cX12_cut 90 = .ok (.iload 6, 2) := by decide +kernel
theorem dX12_cut_92 : decode cX12_cut 92 = .ok (.iconst 1, 1) := by decide +kernel
theorem dX12_cut_93 : decode cX12_cut 93 = .ok (.iadd, 1) := by decide +kernel
theorem dX12_cut_94 : decode cX12_cut 94 = .ok (.iload_n 2, 1) := by decide +kernel
theorem dX12_cut_95 : decode cX12_cut 95 = .ok (.iastore, 1) := by decide +kernel
theorem dX12_cut_96 : decode cX12_cut 96 = .ok (.aload_n 0, 1) := by decide +kernel
theorem dX12_cut_97 : decode cX12_cut 97 = .ok (.getfield 7, 3) := by decide +kernel
theorem dX12_cut_100 : decode cX12_cut 100 = .ok (.iload 6, 2) := by decide +kernel
theorem dX12_cut_102 : decode cX12_cut 102 = .ok (.iconst 2, 1) := by decide +kernel
theorem dX12_cut_103 : decode cX12_cut 103 = .ok (.iadd, 1) := by decide +kernel
theorem dX12_cut_104 : decode cX12_cut 104 = .ok (.iload_n 3, 1) := by decide +kernel
theorem dX12_cut_105 : decode cX12_cut 105 = .ok (.iastore, 1) := by decide +kernel
theorem dX12_cut_106 : decode cX12_cut 106 = .ok (.aload_n 0, 1) := by decide +kernel
theorem dX12_cut_107 : decode cX12_cut 107 = .ok (.getfield 7, 3) := by decide +kernel
theorem dX12_cut_110 : decode cX12_cut 110 = .ok (.iload 6, 2) := by decide +kernel
theorem dX12_cut_112 : decode cX12_cut 112 = .ok (.iconst 3, 1) := by decide +kernel
theorem dX12_cut_113 : decode cX12_cut 113 = .ok (.iadd, 1) := by decide +kernel
theorem dX12_cut_114 : decode cX12_cut 114 = .ok (.iload 4, 2) := by decide +kernel
theorem dX12_cut_116 : decode cX12_cut 116 = .ok (.iastore, 1) := by decide +kernel
theorem dX12_cut_117 : decode cX12_cut 117 = .ok (.aload_n 0, 1) := by decide +kernel
theorem dX12_cut_118 : decode cX12_cut 118 = .ok (.getfield 7, 3) := by decide +kernel
theorem dX12_cut_121 : decode cX12_cut 121 = .ok (.iload 6, 2) := by decide +kernel
theorem dX12_cut_123 : decode cX12_cut 123 = .ok (.iconst 4, 1) := by decide +kernel
theorem dX12_cut_124 : decode cX12_cut 124 = .ok (.iadd, 1) := by decide +kernel
theorem dX12_cut_125 : decode cX12_cut 125 = .ok (.iload 5, 2) := by decide +kernel
theorem dX12_cut_127 : decode cX12_cut 127 = .ok (.iastore, 1) := by decide +kernel
theorem dX12_cut_128 : decode cX12_cut 128 = .ok (.aload_n 0, 1) := by decide +kernel
theorem dX12_cut_129 : decode cX12_cut 129 = .ok (.getfield 7, 3) := by decide +kernel
theorem dX12_cut_132 : decode cX12_cut 132 = .ok (.iload 6, 2) := by decide +kernel
theorem dX12_cut_134 : decode cX12_cut 134 = .ok (.iconst 5, 1) := by decide +kernel
theorem dX12_cut_135 : decode cX12_cut 135 = .ok (.iadd, 1) := by decide +kernel
theorem dX12_cut_136 : decode cX12_cut 136 = .ok (.aload_n 0, 1) := by decide +kernel
theorem dX12_cut_137 : decode cX12_cut 137 = .ok (.getfield 7, 3) := by decide +kernel
theorem dX12_cut_140 : decode cX12_cut 140 = .ok (.bipush 8, 2) := by decide +kernel
theorem dX12_cut_142 : decode cX12_cut 142 = .ok (.iaload, 1) := by decide +kernel
theorem dX12_cut_143 : decode cX12_cut 143 = .ok (.iastore, 1) := by decide +kernel
theorem dX12_cut_144 : decode cX12_cut 144 = .ok (.aload_n 0, 1) := by decide +kernel
theorem dX12_cut_145 : decode cX12_cut 145 = .ok (.getfield 7, 3) := by decide +kernel
theorem dX12_cut_148 : decode cX12_cut 148 = .ok (.iconst 5, 1) := by decide +kernel
theorem dX12_cut_149 : decode cX12_cut 149 = .ok (.dup2, 1) := by decide +kernel
theorem dX12_cut_150 : decode cX12_cut 150 = .ok (.iaload, 1) := by decide +kernel
theorem dX12_cut_151 : decode cX12_cut 151 = .ok (.iconst 1, 1) := by decide +kernel
theorem dX12_cut_152 : decode cX12_cut 152 = .ok (.iadd, 1) := by decide +kernel
theorem dX12_cut_153 : decode cX12_cut 153 = .ok (.iastore, 1) := by decide +kernel
theorem dX12_cut_154 : decode cX12_cut 154 = .ok (.aload_n 0, 1) := by decide +kernel
theorem dX12_cut_155 : decode cX12_cut 155 = .ok (.getfield 7, 3) := by decide +kernel
theorem dX12_cut_158 : decode cX12_cut 158 = .ok (.iconst 5, 1) := by decide +kernel
theorem dX12_cut_159 : decode cX12_cut 159 = .ok (.iaload, 1) := by decide +kernel
theorem dX12_cut_160 : decode cX12_cut 160 = .ok (.iconst 1, 1) := by decide +kernel
theorem dX12_cut_161 : decode cX12_cut 161 = .ok (.isub, 1) := by decide +kernel
theorem dX12_cut_162 : decode cX12_cut 162 = .ok (.ireturn, 1) := by decide +kernel
set_option maxRecDepth 100000 in
set_option maxHeartbeats 4000000 in
theorem k_cut (l : Launch) {D : va_G} {cI cZ : ClassId} {a0 : Nat} (σ : Nat → Nat → Int) (station : Int) (day : Int) (fr : Int) (to : Int) (rank : Int) (hσ : rg σ) (hc : cn (σ 1)) (r_station : inI station) (r_day : inI day) (r_fr : inI fr) (r_to : inI to) (r_rank : inI rank) : moM l D cI cZ a0 yX12_cut cX12_cut 7 (some .int) 2 44 [.ref a0, .int (iz station), .int (iz day), .int (iz fr), .int (iz to), .int (iz rank)] σ (some (.int (iz (if ok_cut (σ 1) station day fr to rank then σ 1 5 else -1)))) (if ok_cut (σ 1) station day fr to rank then sA σ 1 (do_cut (σ 1) station day fr to rank) else σ) := by
  refine mo_start (by decide) rfl (Nat.le_of_ble_eq_true rfl) ?_
  intro p e s m args below meth c C K hr hlk
  refine hv_aload_n C 0 0 dX12_cut_0 rfl rfl ?_
  refine mo_geta C K 0 1 (by decide) rfl mo_hw fl_7 rfl dX12_cut_1 ?_
  refine hv_iconst C dX12_cut_4 ?_
  refine mo_iald C K 1 9040 5 rfl (by omega) (by omega) (by decide) dX12_cut_5 ?_
  refine hv_nm (fun x1 ex1 => ?_)
  have rx1 : inI x1 := by rw [ex1]; exact hσ 1 5
  refine hv_bipush C dX12_cut_6 (by decide) ?_
  refine hv_icmp_eq C 61 dX12_cut_8 (by decide) (by omega) (by omega) (fun h8 => ?_) (fun h8 => ?_)
  · skip
    refine hv_iconst C dX12_cut_61 ?_
    exact mo_iret (Qc := fun _ _ _ _ => True) C hr hlk (by first | exact if_n (by omega) rfl | (refine if_p (by omega) ?_; subst_vars; simp [u2]; try omega)) (by first | exact if_n (by omega) rfl | (refine if_p (by omega) ?_; subst_vars; have hq : (σ 1 5).toNat = n1 := (by omega); simp only [u2_sA, sA_sA, sA_at, do_cut, hq]; congr 2 <;> first | rfl | (simp [ua]; omega) | (congr 1; simp [ua]; omega))) dX12_cut_62
  · skip
    refine hv_iload_n C 1 1 dX12_cut_11 rfl rfl ?_
    refine hv_iconst C dX12_cut_12 ?_
    refine hv_icmp_eq C 25 dX12_cut_13 (by decide) (by omega) (by omega) (fun h13 => ?_) (fun h13 => ?_)
    · skip
      refine hv_iload_n C 2 2 dX12_cut_25 rfl rfl ?_
      refine mo_callS [.int (iz day)] [] C K (k_isDay l σ day (by omega)) ck_isDay (by decide) rfl (Nat.le_of_ble_eq_true rfl) dX12_cut_26 ?_
      refine hv_dif_eq C 61 dX12_cut_29 (by decide)  (fun h29 => ?_) (fun h29 => ?_)
      · skip
        refine hv_iconst C dX12_cut_61 ?_
        exact mo_iret (Qc := fun _ _ _ _ => True) C hr hlk (by first | exact if_n (by omega) rfl | (refine if_p (by omega) ?_; subst_vars; simp [u2]; try omega)) (by first | exact if_n (by omega) rfl | (refine if_p (by omega) ?_; subst_vars; have hq : (σ 1 5).toNat = n1 := (by omega); simp only [u2_sA, sA_sA, sA_at, do_cut, hq]; congr 2 <;> first | rfl | (simp [ua]; omega) | (congr 1; simp [ua]; omega))) dX12_cut_62
      · skip
        refine hv_iload_n C 3 3 dX12_cut_32 rfl rfl ?_
        refine mo_callS [.int (iz fr)] [] C K (k_isSlot l σ fr (by omega)) ck_isSlot (by decide) rfl (Nat.le_of_ble_eq_true rfl) dX12_cut_33 ?_
        refine hv_dif_eq C 61 dX12_cut_36 (by decide)  (fun h36 => ?_) (fun h36 => ?_)
        · skip
          refine hv_iconst C dX12_cut_61 ?_
          exact mo_iret (Qc := fun _ _ _ _ => True) C hr hlk (by first | exact if_n (by omega) rfl | (refine if_p (by omega) ?_; subst_vars; simp [u2]; try omega)) (by first | exact if_n (by omega) rfl | (refine if_p (by omega) ?_; subst_vars; have hq : (σ 1 5).toNat = n1 := (by omega); simp only [u2_sA, sA_sA, sA_at, do_cut, hq]; congr 2 <;> first | rfl | (simp [ua]; omega) | (congr 1; simp [ua]; omega))) dX12_cut_62
        · skip
          refine hv_iload C 4 4 dX12_cut_39 rfl ?_
          refine hv_iload_n C 3 3 dX12_cut_41 rfl rfl ?_
          refine hv_bipush C dX12_cut_42 (by decide) ?_
          refine mo_callS [.int (iz to), .int (iz fr), .int (iz 47)] [] C K (k_isIn l σ to fr 47 (by omega) (by omega) (by omega)) ck_isIn (by decide) rfl (Nat.le_of_ble_eq_true rfl) dX12_cut_44 ?_
          refine hv_dif_eq C 61 dX12_cut_47 (by decide)  (fun h47 => ?_) (fun h47 => ?_)
          · skip
            refine hv_iconst C dX12_cut_61 ?_
            exact mo_iret (Qc := fun _ _ _ _ => True) C hr hlk (by first | exact if_n (by omega) rfl | (refine if_p (by omega) ?_; subst_vars; simp [u2]; try omega)) (by first | exact if_n (by omega) rfl | (refine if_p (by omega) ?_; subst_vars; have hq : (σ 1 5).toNat = n1 := (by omega); simp only [u2_sA, sA_sA, sA_at, do_cut, hq]; congr 2 <;> first | rfl | (simp [ua]; omega) | (congr 1; simp [ua]; omega))) dX12_cut_62
          · skip
            refine hv_iload C 5 5 dX12_cut_50 rfl ?_
            refine hv_iconst C dX12_cut_52 ?_
            refine hv_bipush C dX12_cut_53 (by decide) ?_
            refine mo_callS [.int (iz rank), .int (iz 0), .int (iz 9)] [] C K (k_isIn l σ rank 0 9 (by omega) (by omega) (by omega)) ck_isIn (by decide) rfl (Nat.le_of_ble_eq_true rfl) dX12_cut_55 ?_
            refine hv_dif_ne C 63 dX12_cut_58 (by decide)  (fun h58 => ?_) (fun h58 => ?_)
            · skip
              refine hv_sipush C dX12_cut_63 (by decide) ?_
              refine hv_bipush C dX12_cut_66 (by decide) ?_
              refine hv_aload_n C 0 0 dX12_cut_68 rfl rfl ?_
              refine mo_geta C K 0 1 (by decide) rfl mo_hw fl_7 rfl dX12_cut_69 ?_
              refine hv_iconst C dX12_cut_72 ?_
              refine mo_iald C K 1 9040 5 rfl (by omega) (by omega) (by decide) dX12_cut_73 ?_
              refine hv_nm (fun x2 ex2 => ?_)
              have rx2 : inI x2 := by rw [ex2]; exact hσ 1 5
              obtain ⟨n1, rfl⟩ : ∃ n : Nat, x2 = (n : Int) := ⟨(x2).toNat, by omega⟩
              refine hv_imul C dX12_cut_74 ?_
              refine hv_iadd C dX12_cut_75 ?_
              refine hv_istore C 6 [(6, .int (iz (480 + (6 * ((n1 : Nat) : Int))))), (0, .ref a0), (1, .int (iz station)), (2, .int (iz day)), (3, .int (iz fr)), (4, .int (iz to)), (5, .int (iz rank))] dX12_cut_76 (by decide) rfl ?_
              refine hv_aload_n C 0 1 dX12_cut_78 rfl rfl ?_
              refine mo_geta C K 0 1 (by decide) rfl mo_hw fl_7 rfl dX12_cut_79 ?_
              refine hv_iload C 6 0 dX12_cut_82 rfl ?_
              refine hv_iload_n C 1 2 dX12_cut_84 rfl rfl ?_
              refine mo_iast C K 1 9040 (480 + (6 * n1)) rfl (moW_set1 _ _ _ _ _ _) (by omega) (by omega) (by decide) dX12_cut_85 ?_
              refine hv_aload_n C 0 1 dX12_cut_86 rfl rfl ?_
              refine mo_geta C K 0 1 (by decide) rfl mo_hw fl_7 rfl dX12_cut_87 ?_
              refine hv_iload C 6 0 dX12_cut_90 rfl ?_
              refine hv_iconst C dX12_cut_92 ?_
              refine hv_iadd C dX12_cut_93 ?_
              refine hv_iload_n C 2 3 dX12_cut_94 rfl rfl ?_
              refine mo_iast C K 1 9040 ((480 + (6 * n1)) + 1) rfl (moW_set1 _ _ _ _ _ _) (by omega) (by omega) (by decide) dX12_cut_95 ?_
              refine hv_aload_n C 0 1 dX12_cut_96 rfl rfl ?_
              refine mo_geta C K 0 1 (by decide) rfl mo_hw fl_7 rfl dX12_cut_97 ?_
              refine hv_iload C 6 0 dX12_cut_100 rfl ?_
              refine hv_iconst C dX12_cut_102 ?_
              refine hv_iadd C dX12_cut_103 ?_
              refine hv_iload_n C 3 4 dX12_cut_104 rfl rfl ?_
              refine mo_iast C K 1 9040 ((480 + (6 * n1)) + 2) rfl (moW_set1 _ _ _ _ _ _) (by omega) (by omega) (by decide) dX12_cut_105 ?_
              refine hv_aload_n C 0 1 dX12_cut_106 rfl rfl ?_
              refine mo_geta C K 0 1 (by decide) rfl mo_hw fl_7 rfl dX12_cut_107 ?_
              refine hv_iload C 6 0 dX12_cut_110 rfl ?_
              refine hv_iconst C dX12_cut_112 ?_
              refine hv_iadd C dX12_cut_113 ?_
              refine hv_iload C 4 5 dX12_cut_114 rfl ?_
              refine mo_iast C K 1 9040 ((480 + (6 * n1)) + 3) rfl (moW_set1 _ _ _ _ _ _) (by omega) (by omega) (by decide) dX12_cut_116 ?_
              refine hv_aload_n C 0 1 dX12_cut_117 rfl rfl ?_
              refine mo_geta C K 0 1 (by decide) rfl mo_hw fl_7 rfl dX12_cut_118 ?_
              refine hv_iload C 6 0 dX12_cut_121 rfl ?_
              refine hv_iconst C dX12_cut_123 ?_
              refine hv_iadd C dX12_cut_124 ?_
              refine hv_iload C 5 6 dX12_cut_125 rfl ?_
              refine mo_iast C K 1 9040 ((480 + (6 * n1)) + 4) rfl (moW_set1 _ _ _ _ _ _) (by omega) (by omega) (by decide) dX12_cut_127 ?_
              refine hv_aload_n C 0 1 dX12_cut_128 rfl rfl ?_
              refine mo_geta C K 0 1 (by decide) rfl mo_hw fl_7 rfl dX12_cut_129 ?_
              refine hv_iload C 6 0 dX12_cut_132 rfl ?_
              refine hv_iconst C dX12_cut_134 ?_
              refine hv_iadd C dX12_cut_135 ?_
              refine hv_aload_n C 0 1 dX12_cut_136 rfl rfl ?_
              refine mo_geta C K 0 1 (by decide) rfl mo_hw fl_7 rfl dX12_cut_137 ?_
              refine hv_bipush C dX12_cut_140 (by decide) ?_
              refine mo_iald C K 1 9040 8 rfl (by omega) (by omega) (by decide) dX12_cut_142 ?_
              refine hv_nm (fun x3 ex3 => ?_)
              refine mo_iast C K 1 9040 ((480 + (6 * n1)) + 5) rfl (moW_set1 _ _ _ _ _ _) (by omega) (by omega) (by decide) dX12_cut_143 ?_
              refine hv_aload_n C 0 1 dX12_cut_144 rfl rfl ?_
              refine mo_geta C K 0 1 (by decide) rfl mo_hw fl_7 rfl dX12_cut_145 ?_
              refine hv_iconst C dX12_cut_148 ?_
              refine hv_dup2 C dX12_cut_149 rfl rfl ?_
              refine mo_iald C K 1 9040 5 rfl (by omega) (by omega) (by decide) dX12_cut_150 ?_
              refine hv_nm (fun x4 ex4 => ?_)
              refine hv_iconst C dX12_cut_151 ?_
              refine hv_iadd C dX12_cut_152 ?_
              refine mo_iast C K 1 9040 5 rfl (moW_set1 _ _ _ _ _ _) (by omega) (by omega) (by decide) dX12_cut_153 ?_
              refine hv_aload_n C 0 1 dX12_cut_154 rfl rfl ?_
              refine mo_geta C K 0 1 (by decide) rfl mo_hw fl_7 rfl dX12_cut_155 ?_
              refine hv_iconst C dX12_cut_158 ?_
              refine mo_iald C K 1 9040 5 rfl (by omega) (by omega) (by decide) dX12_cut_159 ?_
              refine hv_nm (fun x5 ex5 => ?_)
              refine hv_iconst C dX12_cut_160 ?_
              refine hv_isub C dX12_cut_161 ?_
              exact mo_iret (Qc := fun _ _ _ _ => True) C hr hlk (by first | exact if_n (by omega) rfl | (refine if_p (by omega) ?_; subst_vars; simp [u2]; try omega)) (by first | exact if_n (by omega) rfl | (refine if_p (by omega) ?_; subst_vars; have hq : (σ 1 5).toNat = n1 := (by omega); simp only [u2_sA, sA_sA, sA_at, do_cut, hq]; congr 2 <;> first | rfl | (simp [ua]; omega) | (congr 1; simp [ua]; omega))) dX12_cut_162
            · skip
              refine hv_iconst C dX12_cut_61 ?_
              exact mo_iret (Qc := fun _ _ _ _ => True) C hr hlk (by first | exact if_n (by omega) rfl | (refine if_p (by omega) ?_; subst_vars; simp [u2]; try omega)) (by first | exact if_n (by omega) rfl | (refine if_p (by omega) ?_; subst_vars; have hq : (σ 1 5).toNat = n1 := (by omega); simp only [u2_sA, sA_sA, sA_at, do_cut, hq]; congr 2 <;> first | rfl | (simp [ua]; omega) | (congr 1; simp [ua]; omega))) dX12_cut_62
    · skip
      refine hv_aload_n C 0 0 dX12_cut_16 rfl rfl ?_
      refine hv_iload_n C 1 1 dX12_cut_17 rfl rfl ?_
      refine hv_iconst C dX12_cut_18 ?_
      refine mo_call [.int (iz station), .int (iz 2)] [] C K (k_isOf l σ station 2 hσ (by omega) (by omega) (by omega)) ck_isOf (by decide) rfl (Nat.le_of_ble_eq_true rfl) dX12_cut_19 ?_
      refine hv_dif_eq C 61 dX12_cut_22 (by decide)  (fun h22 => ?_) (fun h22 => ?_)
      · skip
        refine hv_iconst C dX12_cut_61 ?_
        exact mo_iret (Qc := fun _ _ _ _ => True) C hr hlk (by first | exact if_n (by omega) rfl | (refine if_p (by omega) ?_; subst_vars; simp [u2]; try omega)) (by first | exact if_n (by omega) rfl | (refine if_p (by omega) ?_; subst_vars; have hq : (σ 1 5).toNat = n1 := (by omega); simp only [u2_sA, sA_sA, sA_at, do_cut, hq]; congr 2 <;> first | rfl | (simp [ua]; omega) | (congr 1; simp [ua]; omega))) dX12_cut_62
      · skip
        refine hv_iload_n C 2 2 dX12_cut_25 rfl rfl ?_
        refine mo_callS [.int (iz day)] [] C K (k_isDay l σ day (by omega)) ck_isDay (by decide) rfl (Nat.le_of_ble_eq_true rfl) dX12_cut_26 ?_
        refine hv_dif_eq C 61 dX12_cut_29 (by decide)  (fun h29 => ?_) (fun h29 => ?_)
        · skip
          refine hv_iconst C dX12_cut_61 ?_
          exact mo_iret (Qc := fun _ _ _ _ => True) C hr hlk (by first | exact if_n (by omega) rfl | (refine if_p (by omega) ?_; subst_vars; simp [u2]; try omega)) (by first | exact if_n (by omega) rfl | (refine if_p (by omega) ?_; subst_vars; have hq : (σ 1 5).toNat = n1 := (by omega); simp only [u2_sA, sA_sA, sA_at, do_cut, hq]; congr 2 <;> first | rfl | (simp [ua]; omega) | (congr 1; simp [ua]; omega))) dX12_cut_62
        · skip
          refine hv_iload_n C 3 3 dX12_cut_32 rfl rfl ?_
          refine mo_callS [.int (iz fr)] [] C K (k_isSlot l σ fr (by omega)) ck_isSlot (by decide) rfl (Nat.le_of_ble_eq_true rfl) dX12_cut_33 ?_
          refine hv_dif_eq C 61 dX12_cut_36 (by decide)  (fun h36 => ?_) (fun h36 => ?_)
          · skip
            refine hv_iconst C dX12_cut_61 ?_
            exact mo_iret (Qc := fun _ _ _ _ => True) C hr hlk (by first | exact if_n (by omega) rfl | (refine if_p (by omega) ?_; subst_vars; simp [u2]; try omega)) (by first | exact if_n (by omega) rfl | (refine if_p (by omega) ?_; subst_vars; have hq : (σ 1 5).toNat = n1 := (by omega); simp only [u2_sA, sA_sA, sA_at, do_cut, hq]; congr 2 <;> first | rfl | (simp [ua]; omega) | (congr 1; simp [ua]; omega))) dX12_cut_62
          · skip
            refine hv_iload C 4 4 dX12_cut_39 rfl ?_
            refine hv_iload_n C 3 3 dX12_cut_41 rfl rfl ?_
            refine hv_bipush C dX12_cut_42 (by decide) ?_
            refine mo_callS [.int (iz to), .int (iz fr), .int (iz 47)] [] C K (k_isIn l σ to fr 47 (by omega) (by omega) (by omega)) ck_isIn (by decide) rfl (Nat.le_of_ble_eq_true rfl) dX12_cut_44 ?_
            refine hv_dif_eq C 61 dX12_cut_47 (by decide)  (fun h47 => ?_) (fun h47 => ?_)
            · skip
              refine hv_iconst C dX12_cut_61 ?_
              exact mo_iret (Qc := fun _ _ _ _ => True) C hr hlk (by first | exact if_n (by omega) rfl | (refine if_p (by omega) ?_; subst_vars; simp [u2]; try omega)) (by first | exact if_n (by omega) rfl | (refine if_p (by omega) ?_; subst_vars; have hq : (σ 1 5).toNat = n1 := (by omega); simp only [u2_sA, sA_sA, sA_at, do_cut, hq]; congr 2 <;> first | rfl | (simp [ua]; omega) | (congr 1; simp [ua]; omega))) dX12_cut_62
            · skip
              refine hv_iload C 5 5 dX12_cut_50 rfl ?_
              refine hv_iconst C dX12_cut_52 ?_
              refine hv_bipush C dX12_cut_53 (by decide) ?_
              refine mo_callS [.int (iz rank), .int (iz 0), .int (iz 9)] [] C K (k_isIn l σ rank 0 9 (by omega) (by omega) (by omega)) ck_isIn (by decide) rfl (Nat.le_of_ble_eq_true rfl) dX12_cut_55 ?_
              refine hv_dif_ne C 63 dX12_cut_58 (by decide)  (fun h58 => ?_) (fun h58 => ?_)
              · skip
                refine hv_sipush C dX12_cut_63 (by decide) ?_
                refine hv_bipush C dX12_cut_66 (by decide) ?_
                refine hv_aload_n C 0 0 dX12_cut_68 rfl rfl ?_
                refine mo_geta C K 0 1 (by decide) rfl mo_hw fl_7 rfl dX12_cut_69 ?_
                refine hv_iconst C dX12_cut_72 ?_
                refine mo_iald C K 1 9040 5 rfl (by omega) (by omega) (by decide) dX12_cut_73 ?_
                refine hv_nm (fun x6 ex6 => ?_)
                have rx6 : inI x6 := by rw [ex6]; exact hσ 1 5
                obtain ⟨n1, rfl⟩ : ∃ n : Nat, x6 = (n : Int) := ⟨(x6).toNat, by omega⟩
                refine hv_imul C dX12_cut_74 ?_
                refine hv_iadd C dX12_cut_75 ?_
                refine hv_istore C 6 [(6, .int (iz (480 + (6 * ((n1 : Nat) : Int))))), (0, .ref a0), (1, .int (iz station)), (2, .int (iz day)), (3, .int (iz fr)), (4, .int (iz to)), (5, .int (iz rank))] dX12_cut_76 (by decide) rfl ?_
                refine hv_aload_n C 0 1 dX12_cut_78 rfl rfl ?_
                refine mo_geta C K 0 1 (by decide) rfl mo_hw fl_7 rfl dX12_cut_79 ?_
                refine hv_iload C 6 0 dX12_cut_82 rfl ?_
                refine hv_iload_n C 1 2 dX12_cut_84 rfl rfl ?_
                refine mo_iast C K 1 9040 (480 + (6 * n1)) rfl (moW_set1 _ _ _ _ _ _) (by omega) (by omega) (by decide) dX12_cut_85 ?_
                refine hv_aload_n C 0 1 dX12_cut_86 rfl rfl ?_
                refine mo_geta C K 0 1 (by decide) rfl mo_hw fl_7 rfl dX12_cut_87 ?_
                refine hv_iload C 6 0 dX12_cut_90 rfl ?_
                refine hv_iconst C dX12_cut_92 ?_
                refine hv_iadd C dX12_cut_93 ?_
                refine hv_iload_n C 2 3 dX12_cut_94 rfl rfl ?_
                refine mo_iast C K 1 9040 ((480 + (6 * n1)) + 1) rfl (moW_set1 _ _ _ _ _ _) (by omega) (by omega) (by decide) dX12_cut_95 ?_
                refine hv_aload_n C 0 1 dX12_cut_96 rfl rfl ?_
                refine mo_geta C K 0 1 (by decide) rfl mo_hw fl_7 rfl dX12_cut_97 ?_
                refine hv_iload C 6 0 dX12_cut_100 rfl ?_
                refine hv_iconst C dX12_cut_102 ?_
                refine hv_iadd C dX12_cut_103 ?_
                refine hv_iload_n C 3 4 dX12_cut_104 rfl rfl ?_
                refine mo_iast C K 1 9040 ((480 + (6 * n1)) + 2) rfl (moW_set1 _ _ _ _ _ _) (by omega) (by omega) (by decide) dX12_cut_105 ?_
                refine hv_aload_n C 0 1 dX12_cut_106 rfl rfl ?_
                refine mo_geta C K 0 1 (by decide) rfl mo_hw fl_7 rfl dX12_cut_107 ?_
                refine hv_iload C 6 0 dX12_cut_110 rfl ?_
                refine hv_iconst C dX12_cut_112 ?_
                refine hv_iadd C dX12_cut_113 ?_
                refine hv_iload C 4 5 dX12_cut_114 rfl ?_
                refine mo_iast C K 1 9040 ((480 + (6 * n1)) + 3) rfl (moW_set1 _ _ _ _ _ _) (by omega) (by omega) (by decide) dX12_cut_116 ?_
                refine hv_aload_n C 0 1 dX12_cut_117 rfl rfl ?_
                refine mo_geta C K 0 1 (by decide) rfl mo_hw fl_7 rfl dX12_cut_118 ?_
                refine hv_iload C 6 0 dX12_cut_121 rfl ?_
                refine hv_iconst C dX12_cut_123 ?_
                refine hv_iadd C dX12_cut_124 ?_
                refine hv_iload C 5 6 dX12_cut_125 rfl ?_
                refine mo_iast C K 1 9040 ((480 + (6 * n1)) + 4) rfl (moW_set1 _ _ _ _ _ _) (by omega) (by omega) (by decide) dX12_cut_127 ?_
                refine hv_aload_n C 0 1 dX12_cut_128 rfl rfl ?_
                refine mo_geta C K 0 1 (by decide) rfl mo_hw fl_7 rfl dX12_cut_129 ?_
                refine hv_iload C 6 0 dX12_cut_132 rfl ?_
                refine hv_iconst C dX12_cut_134 ?_
                refine hv_iadd C dX12_cut_135 ?_
                refine hv_aload_n C 0 1 dX12_cut_136 rfl rfl ?_
                refine mo_geta C K 0 1 (by decide) rfl mo_hw fl_7 rfl dX12_cut_137 ?_
                refine hv_bipush C dX12_cut_140 (by decide) ?_
                refine mo_iald C K 1 9040 8 rfl (by omega) (by omega) (by decide) dX12_cut_142 ?_
                refine hv_nm (fun x7 ex7 => ?_)
                refine mo_iast C K 1 9040 ((480 + (6 * n1)) + 5) rfl (moW_set1 _ _ _ _ _ _) (by omega) (by omega) (by decide) dX12_cut_143 ?_
                refine hv_aload_n C 0 1 dX12_cut_144 rfl rfl ?_
                refine mo_geta C K 0 1 (by decide) rfl mo_hw fl_7 rfl dX12_cut_145 ?_
                refine hv_iconst C dX12_cut_148 ?_
                refine hv_dup2 C dX12_cut_149 rfl rfl ?_
                refine mo_iald C K 1 9040 5 rfl (by omega) (by omega) (by decide) dX12_cut_150 ?_
                refine hv_nm (fun x8 ex8 => ?_)
                refine hv_iconst C dX12_cut_151 ?_
                refine hv_iadd C dX12_cut_152 ?_
                refine mo_iast C K 1 9040 5 rfl (moW_set1 _ _ _ _ _ _) (by omega) (by omega) (by decide) dX12_cut_153 ?_
                refine hv_aload_n C 0 1 dX12_cut_154 rfl rfl ?_
                refine mo_geta C K 0 1 (by decide) rfl mo_hw fl_7 rfl dX12_cut_155 ?_
                refine hv_iconst C dX12_cut_158 ?_
                refine mo_iald C K 1 9040 5 rfl (by omega) (by omega) (by decide) dX12_cut_159 ?_
                refine hv_nm (fun x9 ex9 => ?_)
                refine hv_iconst C dX12_cut_160 ?_
                refine hv_isub C dX12_cut_161 ?_
                exact mo_iret (Qc := fun _ _ _ _ => True) C hr hlk (by first | exact if_n (by omega) rfl | (refine if_p (by omega) ?_; subst_vars; simp [u2]; try omega)) (by first | exact if_n (by omega) rfl | (refine if_p (by omega) ?_; subst_vars; have hq : (σ 1 5).toNat = n1 := (by omega); simp only [u2_sA, sA_sA, sA_at, do_cut, hq]; congr 2 <;> first | rfl | (simp [ua]; omega) | (congr 1; simp [ua]; omega))) dX12_cut_162
              · skip
                refine hv_iconst C dX12_cut_61 ?_
                exact mo_iret (Qc := fun _ _ _ _ => True) C hr hlk (by first | exact if_n (by omega) rfl | (refine if_p (by omega) ?_; subst_vars; simp [u2]; try omega)) (by first | exact if_n (by omega) rfl | (refine if_p (by omega) ?_; subst_vars; have hq : (σ 1 5).toNat = n1 := (by omega); simp only [u2_sA, sA_sA, sA_at, do_cut, hq]; congr 2 <;> first | rfl | (simp [ua]; omega) | (congr 1; simp [ua]; omega))) dX12_cut_62
theorem dX12_calls_0 : decode cX12_calls 0 = .ok (.aload_n 0, 1) := by decide +kernel
theorem dX12_calls_1 : decode cX12_calls 1 = .ok (.getfield 7, 3) := by decide +kernel
theorem dX12_calls_4 : decode cX12_calls 4 = .ok (.bipush 6, 2) := by decide +kernel
theorem dX12_calls_6 : decode cX12_calls 6 = .ok (.iaload, 1) := by decide +kernel
theorem dX12_calls_7 : decode cX12_calls 7 = .ok (.bipush 40, 2) := by decide +kernel
theorem dX12_calls_9 : decode cX12_calls 9 = .ok (.if_icmp .eq 32, 3) := by decide +kernel
theorem dX12_calls_12 : decode cX12_calls 12 = .ok (.aload_n 0, 1) := by decide +kernel
theorem dX12_calls_13 : decode cX12_calls 13 = .ok (.iload_n 1, 1) := by decide +kernel
theorem dX12_calls_14 : decode cX12_calls 14 = .ok (.iconst 2, 1) := by decide +kernel
theorem dX12_calls_15 : decode cX12_calls 15 = .ok (.invokevirtual 63, 3) := by decide +kernel
theorem dX12_calls_18 : decode cX12_calls 18 = .ok (.ifCond .eq 23, 3) := by decide +kernel
theorem dX12_calls_21 : decode cX12_calls 21 = .ok (.iload_n 2, 1) := by decide +kernel
theorem dX12_calls_22 : decode cX12_calls 22 = .ok (.iconst 1, 1) := by decide +kernel
theorem dX12_calls_23 : decode cX12_calls 23 = .ok (.sipush 999, 3) := by decide +kernel
theorem dX12_calls_26 : decode cX12_calls 26 = .ok (.invokestatic 59, 3) := by decide +kernel
theorem dX12_calls_29 : decode cX12_calls 29 = .ok (.ifCond .eq 12, 3) := by decide +kernel
theorem dX12_calls_32 : decode cX12_calls 32 = .ok (.iload_n 3, 1) := by decide +kernel
theorem dX12_calls_33 : decode cX12_calls 33 = .ok (.iconst 0, 1) := by decide +kernel
theorem dX12_calls_34 : decode cX12_calls 34 = .ok (.iload_n 2, 1) := by decide +kernel
theorem dX12_calls_35 : decode cX12_calls 35 = .ok (.invokestatic 59, 3) := by decide +kernel
theorem dX12_calls_38 : decode cX12_calls 38 = .ok (.ifCond .ne 5, 3) := by decide +kernel
theorem dX12_calls_41 : decode cX12_calls 41 = .ok (.iconst (-1), 1) := by decide +kernel
theorem dX12_calls_42 : decode cX12_calls 42 = .ok (.ireturn, 1) := by decide +kernel
theorem dX12_calls_43 : decode cX12_calls 43 = .ok (.sipush 630, 3) := by decide +kernel
theorem dX12_calls_46 : decode cX12_calls 46 = .ok (.iconst 3, 1) := by decide +kernel
theorem dX12_calls_47 : decode cX12_calls 47 = .ok (.aload_n 0, 1) := by decide +kernel
theorem dX12_calls_48 : decode cX12_calls 48 = .ok (.getfield 7, 3) := by decide +kernel
theorem dX12_calls_51 : decode cX12_calls 51 = .ok (.bipush 6, 2) := by decide +kernel
theorem dX12_calls_53 : decode cX12_calls 53 = .ok (.iaload, 1) := by decide +kernel
theorem dX12_calls_54 : decode cX12_calls 54 = .ok (.imul, 1) := by decide +kernel
theorem dX12_calls_55 : decode cX12_calls 55 = .ok (.iadd, 1) := by decide +kernel
theorem dX12_calls_56 : decode cX12_calls 56 = .ok (.istore 4, 2) := by decide +kernel
theorem dX12_calls_58 : decode cX12_calls 58 = .ok (.aload_n 0, 1) := by decide +kernel
theorem dX12_calls_59 : decode cX12_calls 59 = .ok (.getfield 7, 3) := by decide +kernel
theorem dX12_calls_62 : decode cX12_calls 62 = .ok (.iload 4, 2) := by decide +kernel
theorem dX12_calls_64 : decode cX12_calls 64 = .ok (.iload_n 1, 1) := by decide +kernel
theorem dX12_calls_65 : decode cX12_calls 65 = .ok (.iastore, 1) := by decide +kernel
theorem dX12_calls_66 : decode cX12_calls 66 = .ok (.aload_n 0, 1) := by decide +kernel
theorem dX12_calls_67 : decode cX12_calls 67 = .ok (.getfield 7, 3) := by decide +kernel
theorem dX12_calls_70 : decode cX12_calls 70 = .ok (.iload 4, 2) := by decide +kernel
theorem dX12_calls_72 : decode cX12_calls 72 = .ok (.iconst 1, 1) := by decide +kernel
theorem dX12_calls_73 : decode cX12_calls 73 = .ok (.iadd, 1) := by decide +kernel
theorem dX12_calls_74 : decode cX12_calls 74 = .ok (.iload_n 2, 1) := by decide +kernel
theorem dX12_calls_75 : decode cX12_calls 75 = .ok (.iastore, 1) := by decide +kernel
theorem dX12_calls_76 : decode cX12_calls 76 = .ok (.aload_n 0, 1) := by decide +kernel
theorem dX12_calls_77 : decode cX12_calls 77 = .ok (.getfield 7, 3) := by decide +kernel
theorem dX12_calls_80 : decode cX12_calls 80 = .ok (.iload 4, 2) := by decide +kernel
theorem dX12_calls_82 : decode cX12_calls 82 = .ok (.iconst 2, 1) := by decide +kernel
theorem dX12_calls_83 : decode cX12_calls 83 = .ok (.iadd, 1) := by decide +kernel
theorem dX12_calls_84 : decode cX12_calls 84 = .ok (.iload_n 3, 1) := by decide +kernel
theorem dX12_calls_85 : decode cX12_calls 85 = .ok (.iastore, 1) := by decide +kernel
theorem dX12_calls_86 : decode cX12_calls 86 = .ok (.aload_n 0, 1) := by decide +kernel
theorem dX12_calls_87 : decode cX12_calls 87 = .ok (.getfield 7, 3) := by decide +kernel
theorem dX12_calls_90 : decode cX12_calls 90 = .ok (.bipush 6, 2) := by decide +kernel
theorem dX12_calls_92 : decode cX12_calls 92 = .ok (.dup2, 1) := by decide +kernel
theorem dX12_calls_93 : decode cX12_calls 93 = .ok (.iaload, 1) := by decide +kernel
theorem dX12_calls_94 : decode cX12_calls 94 = .ok (.iconst 1, 1) := by decide +kernel
theorem dX12_calls_95 : decode cX12_calls 95 = .ok (.iadd, 1) := by decide +kernel
theorem dX12_calls_96 : decode cX12_calls 96 = .ok (.iastore, 1) := by decide +kernel
theorem dX12_calls_97 : decode cX12_calls 97 = .ok (.aload_n 0, 1) := by decide +kernel
theorem dX12_calls_98 : decode cX12_calls 98 = .ok (.getfield 7, 3) := by decide +kernel
theorem dX12_calls_101 : decode cX12_calls 101 = .ok (.bipush 6, 2) := by decide +kernel
theorem dX12_calls_103 : decode cX12_calls 103 = .ok (.iaload, 1) := by decide +kernel
theorem dX12_calls_104 : decode cX12_calls 104 = .ok (.iconst 1, 1) := by decide +kernel
theorem dX12_calls_105 : decode cX12_calls 105 = .ok (.isub, 1) := by decide +kernel
theorem dX12_calls_106 : decode cX12_calls 106 = .ok (.ireturn, 1) := by decide +kernel
set_option maxRecDepth 100000 in
set_option maxHeartbeats 4000000 in
theorem k_calls (l : Launch) {D : va_G} {cI cZ : ClassId} {a0 : Nat} (σ : Nat → Nat → Int) (station : Int) (called : Int) (heard : Int) (hσ : rg σ) (hc : cn (σ 1)) (r_station : inI station) (r_called : inI called) (r_heard : inI heard) : moM l D cI cZ a0 yX12_calls cX12_calls 5 (some .int) 2 44 [.ref a0, .int (iz station), .int (iz called), .int (iz heard)] σ (some (.int (iz (if ok_calls (σ 1) station called heard then σ 1 6 else -1)))) (if ok_calls (σ 1) station called heard then sA σ 1 (do_calls (σ 1) station called heard) else σ) := by
  refine mo_start (by decide) rfl (Nat.le_of_ble_eq_true rfl) ?_
  intro p e s m args below meth c C K hr hlk
  refine hv_aload_n C 0 0 dX12_calls_0 rfl rfl ?_
  refine mo_geta C K 0 1 (by decide) rfl mo_hw fl_7 rfl dX12_calls_1 ?_
  refine hv_bipush C dX12_calls_4 (by decide) ?_
  refine mo_iald C K 1 9040 6 rfl (by omega) (by omega) (by decide) dX12_calls_6 ?_
  refine hv_nm (fun x1 ex1 => ?_)
  have rx1 : inI x1 := by rw [ex1]; exact hσ 1 6
  refine hv_bipush C dX12_calls_7 (by decide) ?_
  refine hv_icmp_eq C 41 dX12_calls_9 (by decide) (by omega) (by omega) (fun h9 => ?_) (fun h9 => ?_)
  · skip
    refine hv_iconst C dX12_calls_41 ?_
    exact mo_iret (Qc := fun _ _ _ _ => True) C hr hlk (by first | exact if_n (by omega) rfl | (refine if_p (by omega) ?_; subst_vars; simp [u2]; try omega)) (by first | exact if_n (by omega) rfl | (refine if_p (by omega) ?_; subst_vars; have hq : (σ 1 6).toNat = n1 := (by omega); simp only [u2_sA, sA_sA, sA_at, do_calls, hq]; congr 2 <;> first | rfl | (simp [ua]; omega) | (congr 1; simp [ua]; omega))) dX12_calls_42
  · skip
    refine hv_aload_n C 0 0 dX12_calls_12 rfl rfl ?_
    refine hv_iload_n C 1 1 dX12_calls_13 rfl rfl ?_
    refine hv_iconst C dX12_calls_14 ?_
    refine mo_call [.int (iz station), .int (iz 2)] [] C K (k_isOf l σ station 2 hσ (by omega) (by omega) (by omega)) ck_isOf (by decide) rfl (Nat.le_of_ble_eq_true rfl) dX12_calls_15 ?_
    refine hv_dif_eq C 41 dX12_calls_18 (by decide)  (fun h18 => ?_) (fun h18 => ?_)
    · skip
      refine hv_iconst C dX12_calls_41 ?_
      exact mo_iret (Qc := fun _ _ _ _ => True) C hr hlk (by first | exact if_n (by omega) rfl | (refine if_p (by omega) ?_; subst_vars; simp [u2]; try omega)) (by first | exact if_n (by omega) rfl | (refine if_p (by omega) ?_; subst_vars; have hq : (σ 1 6).toNat = n1 := (by omega); simp only [u2_sA, sA_sA, sA_at, do_calls, hq]; congr 2 <;> first | rfl | (simp [ua]; omega) | (congr 1; simp [ua]; omega))) dX12_calls_42
    · skip
      refine hv_iload_n C 2 2 dX12_calls_21 rfl rfl ?_
      refine hv_iconst C dX12_calls_22 ?_
      refine hv_sipush C dX12_calls_23 (by decide) ?_
      refine mo_callS [.int (iz called), .int (iz 1), .int (iz 999)] [] C K (k_isIn l σ called 1 999 (by omega) (by omega) (by omega)) ck_isIn (by decide) rfl (Nat.le_of_ble_eq_true rfl) dX12_calls_26 ?_
      refine hv_dif_eq C 41 dX12_calls_29 (by decide)  (fun h29 => ?_) (fun h29 => ?_)
      · skip
        refine hv_iconst C dX12_calls_41 ?_
        exact mo_iret (Qc := fun _ _ _ _ => True) C hr hlk (by first | exact if_n (by omega) rfl | (refine if_p (by omega) ?_; subst_vars; simp [u2]; try omega)) (by first | exact if_n (by omega) rfl | (refine if_p (by omega) ?_; subst_vars; have hq : (σ 1 6).toNat = n1 := (by omega); simp only [u2_sA, sA_sA, sA_at, do_calls, hq]; congr 2 <;> first | rfl | (simp [ua]; omega) | (congr 1; simp [ua]; omega))) dX12_calls_42
      · skip
        refine hv_iload_n C 3 3 dX12_calls_32 rfl rfl ?_
        refine hv_iconst C dX12_calls_33 ?_
        refine hv_iload_n C 2 2 dX12_calls_34 rfl rfl ?_
        refine mo_callS [.int (iz heard), .int (iz 0), .int (iz called)] [] C K (k_isIn l σ heard 0 called (by omega) (by omega) (by omega)) ck_isIn (by decide) rfl (Nat.le_of_ble_eq_true rfl) dX12_calls_35 ?_
        refine hv_dif_ne C 43 dX12_calls_38 (by decide)  (fun h38 => ?_) (fun h38 => ?_)
        · skip
          refine hv_sipush C dX12_calls_43 (by decide) ?_
          refine hv_iconst C dX12_calls_46 ?_
          refine hv_aload_n C 0 0 dX12_calls_47 rfl rfl ?_
          refine mo_geta C K 0 1 (by decide) rfl mo_hw fl_7 rfl dX12_calls_48 ?_
          refine hv_bipush C dX12_calls_51 (by decide) ?_
          refine mo_iald C K 1 9040 6 rfl (by omega) (by omega) (by decide) dX12_calls_53 ?_
          refine hv_nm (fun x2 ex2 => ?_)
          have rx2 : inI x2 := by rw [ex2]; exact hσ 1 6
          obtain ⟨n1, rfl⟩ : ∃ n : Nat, x2 = (n : Int) := ⟨(x2).toNat, by omega⟩
          refine hv_imul C dX12_calls_54 ?_
          refine hv_iadd C dX12_calls_55 ?_
          refine hv_istore C 4 [(4, .int (iz (630 + (3 * ((n1 : Nat) : Int))))), (0, .ref a0), (1, .int (iz station)), (2, .int (iz called)), (3, .int (iz heard))] dX12_calls_56 (by decide) rfl ?_
          refine hv_aload_n C 0 1 dX12_calls_58 rfl rfl ?_
          refine mo_geta C K 0 1 (by decide) rfl mo_hw fl_7 rfl dX12_calls_59 ?_
          refine hv_iload C 4 0 dX12_calls_62 rfl ?_
          refine hv_iload_n C 1 2 dX12_calls_64 rfl rfl ?_
          refine mo_iast C K 1 9040 (630 + (3 * n1)) rfl (moW_set1 _ _ _ _ _ _) (by omega) (by omega) (by decide) dX12_calls_65 ?_
          refine hv_aload_n C 0 1 dX12_calls_66 rfl rfl ?_
          refine mo_geta C K 0 1 (by decide) rfl mo_hw fl_7 rfl dX12_calls_67 ?_
          refine hv_iload C 4 0 dX12_calls_70 rfl ?_
          refine hv_iconst C dX12_calls_72 ?_
          refine hv_iadd C dX12_calls_73 ?_
          refine hv_iload_n C 2 3 dX12_calls_74 rfl rfl ?_
          refine mo_iast C K 1 9040 ((630 + (3 * n1)) + 1) rfl (moW_set1 _ _ _ _ _ _) (by omega) (by omega) (by decide) dX12_calls_75 ?_
          refine hv_aload_n C 0 1 dX12_calls_76 rfl rfl ?_
          refine mo_geta C K 0 1 (by decide) rfl mo_hw fl_7 rfl dX12_calls_77 ?_
          refine hv_iload C 4 0 dX12_calls_80 rfl ?_
          refine hv_iconst C dX12_calls_82 ?_
          refine hv_iadd C dX12_calls_83 ?_
          refine hv_iload_n C 3 4 dX12_calls_84 rfl rfl ?_
          refine mo_iast C K 1 9040 ((630 + (3 * n1)) + 2) rfl (moW_set1 _ _ _ _ _ _) (by omega) (by omega) (by decide) dX12_calls_85 ?_
          refine hv_aload_n C 0 1 dX12_calls_86 rfl rfl ?_
          refine mo_geta C K 0 1 (by decide) rfl mo_hw fl_7 rfl dX12_calls_87 ?_
          refine hv_bipush C dX12_calls_90 (by decide) ?_
          refine hv_dup2 C dX12_calls_92 rfl rfl ?_
          refine mo_iald C K 1 9040 6 rfl (by omega) (by omega) (by decide) dX12_calls_93 ?_
          refine hv_nm (fun x3 ex3 => ?_)
          refine hv_iconst C dX12_calls_94 ?_
          refine hv_iadd C dX12_calls_95 ?_
          refine mo_iast C K 1 9040 6 rfl (moW_set1 _ _ _ _ _ _) (by omega) (by omega) (by decide) dX12_calls_96 ?_
          refine hv_aload_n C 0 1 dX12_calls_97 rfl rfl ?_
          refine mo_geta C K 0 1 (by decide) rfl mo_hw fl_7 rfl dX12_calls_98 ?_
          refine hv_bipush C dX12_calls_101 (by decide) ?_
          refine mo_iald C K 1 9040 6 rfl (by omega) (by omega) (by decide) dX12_calls_103 ?_
          refine hv_nm (fun x4 ex4 => ?_)
          refine hv_iconst C dX12_calls_104 ?_
          refine hv_isub C dX12_calls_105 ?_
          exact mo_iret (Qc := fun _ _ _ _ => True) C hr hlk (by first | exact if_n (by omega) rfl | (refine if_p (by omega) ?_; subst_vars; simp [u2]; try omega)) (by first | exact if_n (by omega) rfl | (refine if_p (by omega) ?_; subst_vars; have hq : (σ 1 6).toNat = n1 := (by omega); simp only [u2_sA, sA_sA, sA_at, do_calls, hq]; congr 2 <;> first | rfl | (simp [ua]; omega) | (congr 1; simp [ua]; omega))) dX12_calls_106
        · skip
          refine hv_iconst C dX12_calls_41 ?_
          exact mo_iret (Qc := fun _ _ _ _ => True) C hr hlk (by first | exact if_n (by omega) rfl | (refine if_p (by omega) ?_; subst_vars; simp [u2]; try omega)) (by first | exact if_n (by omega) rfl | (refine if_p (by omega) ?_; subst_vars; have hq : (σ 1 6).toNat = n1 := (by omega); simp only [u2_sA, sA_sA, sA_at, do_calls, hq]; congr 2 <;> first | rfl | (simp [ua]; omega) | (congr 1; simp [ua]; omega))) dX12_calls_42
theorem dX12_own_0 : decode cX12_own 0 = .ok (.aload_n 0, 1) := by decide +kernel
theorem dX12_own_1 : decode cX12_own 1 = .ok (.iload_n 1, 1) := by decide +kernel
theorem dX12_own_2 : decode cX12_own 2 = .ok (.iconst 2, 1) := by decide +kernel
theorem dX12_own_3 : decode cX12_own 3 = .ok (.invokevirtual 63, 3) := by decide +kernel
theorem dX12_own_6 : decode cX12_own 6 = .ok (.ifCond .eq 14, 3) := by decide +kernel
theorem dX12_own_9 : decode cX12_own 9 = .ok (.iload_n 2, 1) := by decide +kernel
theorem dX12_own_10 : decode cX12_own 10 = .ok (.iconst 0, 1) := by decide +kernel
theorem dX12_own_11 : decode cX12_own 11 = .ok (.sipush 255, 3) := by decide +kernel
theorem dX12_own_14 : decode cX12_own 14 = .ok (.invokestatic 59, 3) := by decide +kernel
theorem dX12_own_17 : decode cX12_own 17 = .ok (.ifCond .ne 5, 3) := by decide +kernel
theorem dX12_own_20 : decode cX12_own 20 = .ok (.iconst 0, 1) := by decide +kernel
theorem dX12_own_21 : decode cX12_own 21 = .ok (.ireturn, 1) := by decide +kernel
theorem dX12_own_22 : decode cX12_own 22 = .ok (.aload_n 0, 1) := by decide +kernel
theorem dX12_own_23 : decode cX12_own 23 = .ok (.getfield 7, 3) := by decide +kernel
theorem dX12_own_26 : decode cX12_own 26 = .ok (.bipush 80, 2) := by decide +kernel
theorem dX12_own_28 : decode cX12_own 28 = .ok (.iconst 4, 1) := by decide +kernel
theorem dX12_own_29 : decode cX12_own 29 = .ok (.iload_n 1, 1) := by decide +kernel
theorem dX12_own_30 : decode cX12_own 30 = .ok (.imul, 1) := by decide +kernel
theorem dX12_own_31 : decode cX12_own 31 = .ok (.iadd, 1) := by decide +kernel
theorem dX12_own_32 : decode cX12_own 32 = .ok (.iconst 3, 1) := by decide +kernel
theorem dX12_own_33 : decode cX12_own 33 = .ok (.iadd, 1) := by decide +kernel
theorem dX12_own_34 : decode cX12_own 34 = .ok (.iload_n 2, 1) := by decide +kernel
theorem dX12_own_35 : decode cX12_own 35 = .ok (.iastore, 1) := by decide +kernel
theorem dX12_own_36 : decode cX12_own 36 = .ok (.iconst 1, 1) := by decide +kernel
theorem dX12_own_37 : decode cX12_own 37 = .ok (.ireturn, 1) := by decide +kernel
set_option maxRecDepth 100000 in
set_option maxHeartbeats 4000000 in
theorem k_own (l : Launch) {D : va_G} {cI cZ : ClassId} {a0 : Nat} (σ : Nat → Nat → Int) (station : Int) (bits : Int) (hσ : rg σ) (hc : cn (σ 1)) (r_station : inI station) (r_bits : inI bits) : moM l D cI cZ a0 yX12_own cX12_own 3 (some .boolean) 2 44 [.ref a0, .int (iz station), .int (iz bits)] σ (some (.int (iz (xb (decide (((0 ≤ station ∧ station ≤ σ 1 2 - 1) ∧ (0 ≤ bits ∧ bits ≤ 255)))))))) (if ((0 ≤ station ∧ station ≤ σ 1 2 - 1) ∧ (0 ≤ bits ∧ bits ≤ 255)) then sA σ 1 (ua (σ 1) (80 + 4 * station.toNat + 3) bits) else σ) := by
  refine mo_start (by decide) rfl (Nat.le_of_ble_eq_true rfl) ?_
  intro p e s m args below meth c C K hr hlk
  refine hv_aload_n C 0 0 dX12_own_0 rfl rfl ?_
  refine hv_iload_n C 1 1 dX12_own_1 rfl rfl ?_
  refine hv_iconst C dX12_own_2 ?_
  refine mo_call [.int (iz station), .int (iz 2)] [] C K (k_isOf l σ station 2 hσ (by omega) (by omega) (by omega)) ck_isOf (by decide) rfl (Nat.le_of_ble_eq_true rfl) dX12_own_3 ?_
  refine hv_dif_eq C 20 dX12_own_6 (by decide)  (fun h6 => ?_) (fun h6 => ?_)
  · skip
    refine hv_iconst C dX12_own_20 ?_
    exact mo_zret (Qc := fun _ _ _ _ => True) C hr hlk ((xb_f (decide_eq_false (by omega))).symm) (by first | exact if_n (by omega) rfl | exact if_p (by omega) rfl | (refine if_p (by omega) ?_; simp only [u2_sA, sA_sA, sA_at, Int.toNat_natCast])) dX12_own_21
  · skip
    refine hv_iload_n C 2 2 dX12_own_9 rfl rfl ?_
    refine hv_iconst C dX12_own_10 ?_
    refine hv_sipush C dX12_own_11 (by decide) ?_
    refine mo_callS [.int (iz bits), .int (iz 0), .int (iz 255)] [] C K (k_isIn l σ bits 0 255 (by omega) (by omega) (by omega)) ck_isIn (by decide) rfl (Nat.le_of_ble_eq_true rfl) dX12_own_14 ?_
    refine hv_dif_ne C 22 dX12_own_17 (by decide)  (fun h17 => ?_) (fun h17 => ?_)
    · skip
      obtain ⟨sn, rfl⟩ : ∃ n : Nat, station = (n : Int) := ⟨(station).toNat, by omega⟩
      refine hv_aload_n C 0 0 dX12_own_22 rfl rfl ?_
      refine mo_geta C K 0 1 (by decide) rfl mo_hw fl_7 rfl dX12_own_23 ?_
      refine hv_bipush C dX12_own_26 (by decide) ?_
      refine hv_iconst C dX12_own_28 ?_
      refine hv_iload_n C 1 1 dX12_own_29 rfl rfl ?_
      refine hv_imul C dX12_own_30 ?_
      refine hv_iadd C dX12_own_31 ?_
      refine hv_iconst C dX12_own_32 ?_
      refine hv_iadd C dX12_own_33 ?_
      refine hv_iload_n C 2 2 dX12_own_34 rfl rfl ?_
      refine mo_iast C K 1 9040 ((80 + (4 * sn)) + 3) rfl (moW_set1 _ _ _ _ _ _) (by omega) (by omega) (by decide) dX12_own_35 ?_
      refine hv_iconst C dX12_own_36 ?_
      exact mo_zret (Qc := fun _ _ _ _ => True) C hr hlk ((xb_t (decide_eq_true (by omega))).symm) (by first | exact if_n (by omega) rfl | exact if_p (by omega) rfl | (refine if_p (by omega) ?_; simp only [u2_sA, sA_sA, sA_at, Int.toNat_natCast])) dX12_own_37
    · skip
      refine hv_iconst C dX12_own_20 ?_
      exact mo_zret (Qc := fun _ _ _ _ => True) C hr hlk ((xb_f (decide_eq_false (by omega))).symm) (by first | exact if_n (by omega) rfl | exact if_p (by omega) rfl | (refine if_p (by omega) ?_; simp only [u2_sA, sA_sA, sA_at, Int.toNat_natCast])) dX12_own_21
theorem dX12_worth_0 : decode cX12_worth 0 = .ok (.aload_n 0, 1) := by decide +kernel
theorem dX12_worth_1 : decode cX12_worth 1 = .ok (.iload_n 1, 1) := by decide +kernel
theorem dX12_worth_2 : decode cX12_worth 2 = .ok (.bipush 7, 2) := by decide +kernel
theorem dX12_worth_4 : decode cX12_worth 4 = .ok (.invokevirtual 63, 3) := by decide +kernel
theorem dX12_worth_7 : decode cX12_worth 7 = .ok (.ifCond .eq 23, 3) := by decide +kernel
theorem dX12_worth_10 : decode cX12_worth 10 = .ok (.iload_n 2, 1) := by decide +kernel
theorem dX12_worth_11 : decode cX12_worth 11 = .ok (.iconst 0, 1) := by decide +kernel
theorem dX12_worth_12 : decode cX12_worth 12 = .ok (.iconst 5, 1) := by decide +kernel
theorem dX12_worth_13 : decode cX12_worth 13 = .ok (.invokestatic 59, 3) := by decide +kernel
theorem dX12_worth_16 : decode cX12_worth 16 = .ok (.ifCond .eq 14, 3) := by decide +kernel
theorem dX12_worth_19 : decode cX12_worth 19 = .ok (.iload_n 3, 1) := by decide +kernel
theorem dX12_worth_20 : decode cX12_worth 20 = .ok (.iconst 0, 1) := by decide +kernel
theorem dX12_worth_21 : decode cX12_worth 21 = .ok (.sipush 9999, 3) := by decide +kernel
theorem dX12_worth_24 : decode cX12_worth 24 = .ok (.invokestatic 59, 3) := by decide +kernel
theorem dX12_worth_27 : decode cX12_worth 27 = .ok (.ifCond .ne 5, 3) := by decide +kernel
theorem dX12_worth_30 : decode cX12_worth 30 = .ok (.iconst 0, 1) := by decide +kernel
theorem dX12_worth_31 : decode cX12_worth 31 = .ok (.ireturn, 1) := by decide +kernel
theorem dX12_worth_32 : decode cX12_worth 32 = .ok (.aload_n 0, 1) := by decide +kernel
theorem dX12_worth_33 : decode cX12_worth 33 = .ok (.getfield 7, 3) := by decide +kernel
theorem dX12_worth_36 : decode cX12_worth 36 = .ok (.sipush 750, 3) := by decide +kernel
theorem dX12_worth_39 : decode cX12_worth 39 = .ok (.bipush 7, 2) := by decide +kernel
theorem dX12_worth_41 : decode cX12_worth 41 = .ok (.iload_n 1, 1) := by decide +kernel
theorem dX12_worth_42 : decode cX12_worth 42 = .ok (.imul, 1) := by decide +kernel
theorem dX12_worth_43 : decode cX12_worth 43 = .ok (.iadd, 1) := by decide +kernel
theorem dX12_worth_44 : decode cX12_worth 44 = .ok (.iconst 1, 1) := by decide +kernel
theorem dX12_worth_45 : decode cX12_worth 45 = .ok (.iadd, 1) := by decide +kernel
theorem dX12_worth_46 : decode cX12_worth 46 = .ok (.iload_n 2, 1) := by decide +kernel
theorem dX12_worth_47 : decode cX12_worth 47 = .ok (.iadd, 1) := by decide +kernel
theorem dX12_worth_48 : decode cX12_worth 48 = .ok (.iload_n 3, 1) := by decide +kernel
theorem dX12_worth_49 : decode cX12_worth 49 = .ok (.iastore, 1) := by decide +kernel
theorem dX12_worth_50 : decode cX12_worth 50 = .ok (.iconst 1, 1) := by decide +kernel
theorem dX12_worth_51 : decode cX12_worth 51 = .ok (.ireturn, 1) := by decide +kernel
set_option maxRecDepth 100000 in
set_option maxHeartbeats 4000000 in
theorem k_worth (l : Launch) {D : va_G} {cI cZ : ClassId} {a0 : Nat} (σ : Nat → Nat → Int) (piece : Int) (turn : Int) (worth : Int) (hσ : rg σ) (hc : cn (σ 1)) (r_piece : inI piece) (r_turn : inI turn) (r_worth : inI worth) : moM l D cI cZ a0 yX12_worth cX12_worth 4 (some .boolean) 2 44 [.ref a0, .int (iz piece), .int (iz turn), .int (iz worth)] σ (some (.int (iz (xb (decide (((0 ≤ piece ∧ piece ≤ σ 1 7 - 1) ∧ (0 ≤ turn ∧ turn ≤ 5) ∧ (0 ≤ worth ∧ worth ≤ 9999)))))))) (if ((0 ≤ piece ∧ piece ≤ σ 1 7 - 1) ∧ (0 ≤ turn ∧ turn ≤ 5) ∧ (0 ≤ worth ∧ worth ≤ 9999)) then sA σ 1 (ua (σ 1) (750 + 7 * piece.toNat + 1 + turn.toNat) worth) else σ) := by
  refine mo_start (by decide) rfl (Nat.le_of_ble_eq_true rfl) ?_
  intro p e s m args below meth c C K hr hlk
  refine hv_aload_n C 0 0 dX12_worth_0 rfl rfl ?_
  refine hv_iload_n C 1 1 dX12_worth_1 rfl rfl ?_
  refine hv_bipush C dX12_worth_2 (by decide) ?_
  refine mo_call [.int (iz piece), .int (iz 7)] [] C K (k_isOf l σ piece 7 hσ (by omega) (by omega) (by omega)) ck_isOf (by decide) rfl (Nat.le_of_ble_eq_true rfl) dX12_worth_4 ?_
  refine hv_dif_eq C 30 dX12_worth_7 (by decide)  (fun h7 => ?_) (fun h7 => ?_)
  · skip
    refine hv_iconst C dX12_worth_30 ?_
    exact mo_zret (Qc := fun _ _ _ _ => True) C hr hlk ((xb_f (decide_eq_false (by omega))).symm) (by first | exact if_n (by omega) rfl | exact if_p (by omega) rfl | (refine if_p (by omega) ?_; simp only [u2_sA, sA_sA, sA_at, Int.toNat_natCast])) dX12_worth_31
  · skip
    refine hv_iload_n C 2 2 dX12_worth_10 rfl rfl ?_
    refine hv_iconst C dX12_worth_11 ?_
    refine hv_iconst C dX12_worth_12 ?_
    refine mo_callS [.int (iz turn), .int (iz 0), .int (iz 5)] [] C K (k_isIn l σ turn 0 5 (by omega) (by omega) (by omega)) ck_isIn (by decide) rfl (Nat.le_of_ble_eq_true rfl) dX12_worth_13 ?_
    refine hv_dif_eq C 30 dX12_worth_16 (by decide)  (fun h16 => ?_) (fun h16 => ?_)
    · skip
      refine hv_iconst C dX12_worth_30 ?_
      exact mo_zret (Qc := fun _ _ _ _ => True) C hr hlk ((xb_f (decide_eq_false (by omega))).symm) (by first | exact if_n (by omega) rfl | exact if_p (by omega) rfl | (refine if_p (by omega) ?_; simp only [u2_sA, sA_sA, sA_at, Int.toNat_natCast])) dX12_worth_31
    · skip
      refine hv_iload_n C 3 3 dX12_worth_19 rfl rfl ?_
      refine hv_iconst C dX12_worth_20 ?_
      refine hv_sipush C dX12_worth_21 (by decide) ?_
      refine mo_callS [.int (iz worth), .int (iz 0), .int (iz 9999)] [] C K (k_isIn l σ worth 0 9999 (by omega) (by omega) (by omega)) ck_isIn (by decide) rfl (Nat.le_of_ble_eq_true rfl) dX12_worth_24 ?_
      refine hv_dif_ne C 32 dX12_worth_27 (by decide)  (fun h27 => ?_) (fun h27 => ?_)
      · skip
        obtain ⟨pn, rfl⟩ : ∃ n : Nat, piece = (n : Int) := ⟨(piece).toNat, by omega⟩
        obtain ⟨tn, rfl⟩ : ∃ n : Nat, turn = (n : Int) := ⟨(turn).toNat, by omega⟩
        refine hv_aload_n C 0 0 dX12_worth_32 rfl rfl ?_
        refine mo_geta C K 0 1 (by decide) rfl mo_hw fl_7 rfl dX12_worth_33 ?_
        refine hv_sipush C dX12_worth_36 (by decide) ?_
        refine hv_bipush C dX12_worth_39 (by decide) ?_
        refine hv_iload_n C 1 1 dX12_worth_41 rfl rfl ?_
        refine hv_imul C dX12_worth_42 ?_
        refine hv_iadd C dX12_worth_43 ?_
        refine hv_iconst C dX12_worth_44 ?_
        refine hv_iadd C dX12_worth_45 ?_
        refine hv_iload_n C 2 2 dX12_worth_46 rfl rfl ?_
        refine hv_iadd C dX12_worth_47 ?_
        refine hv_iload_n C 3 3 dX12_worth_48 rfl rfl ?_
        refine mo_iast C K 1 9040 (((750 + (7 * pn)) + 1) + tn) rfl (moW_set1 _ _ _ _ _ _) (by omega) (by omega) (by decide) dX12_worth_49 ?_
        refine hv_iconst C dX12_worth_50 ?_
        exact mo_zret (Qc := fun _ _ _ _ => True) C hr hlk ((xb_t (decide_eq_true (by omega))).symm) (by first | exact if_n (by omega) rfl | exact if_p (by omega) rfl | (refine if_p (by omega) ?_; simp only [u2_sA, sA_sA, sA_at, Int.toNat_natCast])) dX12_worth_51
      · skip
        refine hv_iconst C dX12_worth_30 ?_
        exact mo_zret (Qc := fun _ _ _ _ => True) C hr hlk ((xb_f (decide_eq_false (by omega))).symm) (by first | exact if_n (by omega) rfl | exact if_p (by omega) rfl | (refine if_p (by omega) ?_; simp only [u2_sA, sA_sA, sA_at, Int.toNat_natCast])) dX12_worth_31
theorem dX12_hands_0 : decode cX12_hands 0 = .ok (.iload_n 1, 1) := by decide +kernel
theorem dX12_hands_1 : decode cX12_hands 1 = .ok (.iconst 1, 1) := by decide +kernel
theorem dX12_hands_2 : decode cX12_hands 2 = .ok (.iconst 3, 1) := by decide +kernel
theorem dX12_hands_3 : decode cX12_hands 3 = .ok (.invokestatic 59, 3) := by decide +kernel
theorem dX12_hands_6 : decode cX12_hands 6 = .ok (.ifCond .ne 5, 3) := by decide +kernel
theorem dX12_hands_9 : decode cX12_hands 9 = .ok (.iconst 0, 1) := by decide +kernel
theorem dX12_hands_10 : decode cX12_hands 10 = .ok (.ireturn, 1) := by decide +kernel
theorem dX12_hands_11 : decode cX12_hands 11 = .ok (.aload_n 0, 1) := by decide +kernel
theorem dX12_hands_12 : decode cX12_hands 12 = .ok (.getfield 7, 3) := by decide +kernel
theorem dX12_hands_15 : decode cX12_hands 15 = .ok (.bipush 13, 2) := by decide +kernel
theorem dX12_hands_17 : decode cX12_hands 17 = .ok (.iload_n 1, 1) := by decide +kernel
theorem dX12_hands_18 : decode cX12_hands 18 = .ok (.iastore, 1) := by decide +kernel
theorem dX12_hands_19 : decode cX12_hands 19 = .ok (.iconst 1, 1) := by decide +kernel
theorem dX12_hands_20 : decode cX12_hands 20 = .ok (.ireturn, 1) := by decide +kernel
set_option maxRecDepth 100000 in
set_option maxHeartbeats 4000000 in
theorem k_hands (l : Launch) {D : va_G} {cI cZ : ClassId} {a0 : Nat} (σ : Nat → Nat → Int) (h : Int) (hσ : rg σ) (hc : cn (σ 1)) (r_h : inI h) : moM l D cI cZ a0 yX12_hands cX12_hands 2 (some .boolean) 1 22 [.ref a0, .int (iz h)] σ (some (.int (iz (xb (decide ((1 ≤ h ∧ h ≤ 3))))))) (if (1 ≤ h ∧ h ≤ 3) then sA σ 1 (ua (σ 1) 13 h) else σ) := by
  refine mo_start (by decide) rfl (Nat.le_of_ble_eq_true rfl) ?_
  intro p e s m args below meth c C K hr hlk
  refine hv_iload_n C 1 1 dX12_hands_0 rfl rfl ?_
  refine hv_iconst C dX12_hands_1 ?_
  refine hv_iconst C dX12_hands_2 ?_
  refine mo_callS [.int (iz h), .int (iz 1), .int (iz 3)] [] C K (k_isIn l σ h 1 3 (by omega) (by omega) (by omega)) ck_isIn (by decide) rfl (Nat.le_of_ble_eq_true rfl) dX12_hands_3 ?_
  refine hv_dif_ne C 11 dX12_hands_6 (by decide)  (fun h6 => ?_) (fun h6 => ?_)
  · skip
    refine hv_aload_n C 0 0 dX12_hands_11 rfl rfl ?_
    refine mo_geta C K 0 1 (by decide) rfl mo_hw fl_7 rfl dX12_hands_12 ?_
    refine hv_bipush C dX12_hands_15 (by decide) ?_
    refine hv_iload_n C 1 1 dX12_hands_17 rfl rfl ?_
    refine mo_iast C K 1 9040 13 rfl (moW_set1 _ _ _ _ _ _) (by omega) (by omega) (by decide) dX12_hands_18 ?_
    refine hv_iconst C dX12_hands_19 ?_
    exact mo_zret (Qc := fun _ _ _ _ => True) C hr hlk ((xb_t (decide_eq_true (by omega))).symm) (by first | exact if_n (by omega) rfl | exact if_p (by omega) rfl | (refine if_p (by omega) ?_; simp only [u2_sA, sA_sA, sA_at, Int.toNat_natCast])) dX12_hands_20
  · skip
    refine hv_iconst C dX12_hands_9 ?_
    exact mo_zret (Qc := fun _ _ _ _ => True) C hr hlk ((xb_f (decide_eq_false (by omega))).symm) (by first | exact if_n (by omega) rfl | exact if_p (by omega) rfl | (refine if_p (by omega) ?_; simp only [u2_sA, sA_sA, sA_at, Int.toNat_natCast])) dX12_hands_10
theorem dX12_end_0 : decode cX12_end 0 = .ok (.iload_n 1, 1) := by decide +kernel
theorem dX12_end_1 : decode cX12_end 1 = .ok (.ifCond .lt 14, 3) := by decide +kernel
theorem dX12_end_4 : decode cX12_end 4 = .ok (.iload_n 1, 1) := by decide +kernel
theorem dX12_end_5 : decode cX12_end 5 = .ok (.aload_n 0, 1) := by decide +kernel
theorem dX12_end_6 : decode cX12_end 6 = .ok (.getfield 7, 3) := by decide +kernel
theorem dX12_end_9 : decode cX12_end 9 = .ok (.bipush 10, 2) := by decide +kernel
theorem dX12_end_11 : decode cX12_end 11 = .ok (.iaload, 1) := by decide +kernel
theorem dX12_end_12 : decode cX12_end 12 = .ok (.if_icmp .le 5, 3) := by decide +kernel
theorem dX12_end_15 : decode cX12_end 15 = .ok (.iconst (-1), 1) := by decide +kernel
theorem dX12_end_16 : decode cX12_end 16 = .ok (.ireturn, 1) := by decide +kernel
theorem dX12_end_17 : decode cX12_end 17 = .ok (.aload_n 0, 1) := by decide +kernel
theorem dX12_end_18 : decode cX12_end 18 = .ok (.getfield 7, 3) := by decide +kernel
theorem dX12_end_21 : decode cX12_end 21 = .ok (.bipush 10, 2) := by decide +kernel
theorem dX12_end_23 : decode cX12_end 23 = .ok (.iload_n 1, 1) := by decide +kernel
theorem dX12_end_24 : decode cX12_end 24 = .ok (.iastore, 1) := by decide +kernel
theorem dX12_end_25 : decode cX12_end 25 = .ok (.iload_n 1, 1) := by decide +kernel
theorem dX12_end_26 : decode cX12_end 26 = .ok (.ireturn, 1) := by decide +kernel
set_option maxRecDepth 100000 in
set_option maxHeartbeats 4000000 in
theorem k_end (l : Launch) {D : va_G} {cI cZ : ClassId} {a0 : Nat} (σ : Nat → Nat → Int) (n : Int) (hσ : rg σ) (hc : cn (σ 1)) (r_n : inI n) : moM l D cI cZ a0 yX12_end cX12_end 2 (some .int) 0 0 [.ref a0, .int (iz n)] σ (some (.int (iz (if (0 ≤ n ∧ n ≤ σ 1 10) then n else -1)))) (if (0 ≤ n ∧ n ≤ σ 1 10) then sA σ 1 (ua (σ 1) 10 n) else σ) := by
  refine mo_start (by decide) rfl (Nat.le_of_ble_eq_true rfl) ?_
  intro p e s m args below meth c C K hr hlk
  refine hv_iload_n C 1 1 dX12_end_0 rfl rfl ?_
  refine hv_if_lt C 15 dX12_end_1 (by decide) (by omega) (fun h1 => ?_) (fun h1 => ?_)
  · skip
    refine hv_iconst C dX12_end_15 ?_
    exact mo_iret (Qc := fun _ _ _ _ => True) C hr hlk (by first | exact if_n (by omega) rfl | exact if_p (by omega) rfl) (by first | exact if_n (by omega) rfl | exact if_p (by omega) rfl | (refine if_p (by omega) ?_; simp only [u2_sA, sA_sA, sA_at, Int.toNat_natCast])) dX12_end_16
  · skip
    refine hv_iload_n C 1 1 dX12_end_4 rfl rfl ?_
    refine hv_aload_n C 0 0 dX12_end_5 rfl rfl ?_
    refine mo_geta C K 0 1 (by decide) rfl mo_hw fl_7 rfl dX12_end_6 ?_
    refine hv_bipush C dX12_end_9 (by decide) ?_
    refine mo_iald C K 1 9040 10 rfl (by omega) (by omega) (by decide) dX12_end_11 ?_
    refine hv_nm (fun x1 ex1 => ?_)
    have rx1 : inI x1 := by rw [ex1]; exact hσ 1 10
    refine hv_icmp_le C 17 dX12_end_12 (by decide) (by omega) (by omega) (fun h12 => ?_) (fun h12 => ?_)
    · skip
      refine hv_aload_n C 0 0 dX12_end_17 rfl rfl ?_
      refine mo_geta C K 0 1 (by decide) rfl mo_hw fl_7 rfl dX12_end_18 ?_
      refine hv_bipush C dX12_end_21 (by decide) ?_
      refine hv_iload_n C 1 1 dX12_end_23 rfl rfl ?_
      refine mo_iast C K 1 9040 10 rfl (moW_set1 _ _ _ _ _ _) (by omega) (by omega) (by decide) dX12_end_24 ?_
      refine hv_iload_n C 1 1 dX12_end_25 rfl rfl ?_
      exact mo_iret (Qc := fun _ _ _ _ => True) C hr hlk (by first | exact if_n (by omega) rfl | exact if_p (by omega) rfl) (by first | exact if_n (by omega) rfl | exact if_p (by omega) rfl | (refine if_p (by omega) ?_; simp only [u2_sA, sA_sA, sA_at, Int.toNat_natCast])) dX12_end_26
    · skip
      refine hv_iconst C dX12_end_15 ?_
      exact mo_iret (Qc := fun _ _ _ _ => True) C hr hlk (by first | exact if_n (by omega) rfl | exact if_p (by omega) rfl) (by first | exact if_n (by omega) rfl | exact if_p (by omega) rfl | (refine if_p (by omega) ?_; simp only [u2_sA, sA_sA, sA_at, Int.toNat_natCast])) dX12_end_16
theorem dX12_about_0 : decode cX12_about 0 = .ok (.aload_n 0, 1) := by decide +kernel
theorem dX12_about_1 : decode cX12_about 1 = .ok (.iload_n 1, 1) := by decide +kernel
theorem dX12_about_2 : decode cX12_about 2 = .ok (.iconst 4, 1) := by decide +kernel
theorem dX12_about_3 : decode cX12_about 3 = .ok (.invokevirtual 63, 3) := by decide +kernel
theorem dX12_about_6 : decode cX12_about 6 = .ok (.ifCond .eq 22, 3) := by decide +kernel
theorem dX12_about_9 : decode cX12_about 9 = .ok (.iload_n 2, 1) := by decide +kernel
theorem dX12_about_10 : decode cX12_about 10 = .ok (.iconst 0, 1) := by decide +kernel
theorem dX12_about_11 : decode cX12_about 11 = .ok (.bipush 7, 2) := by decide +kernel
theorem dX12_about_13 : decode cX12_about 13 = .ok (.invokestatic 59, 3) := by decide +kernel
theorem dX12_about_16 : decode cX12_about 16 = .ok (.ifCond .eq 12, 3) := by decide +kernel
theorem dX12_about_19 : decode cX12_about 19 = .ok (.aload_n 0, 1) := by decide +kernel
theorem dX12_about_20 : decode cX12_about 20 = .ok (.iload_n 1, 1) := by decide +kernel
theorem dX12_about_21 : decode cX12_about 21 = .ok (.iload_n 2, 1) := by decide +kernel
theorem dX12_about_22 : decode cX12_about 22 = .ok (.invokevirtual 67, 3) := by decide +kernel
theorem dX12_about_25 : decode cX12_about 25 = .ok (.goto 5, 3) := by decide +kernel
theorem dX12_about_28 : decode cX12_about 28 = .ok (.bipush (-2), 2) := by decide +kernel
theorem dX12_about_30 : decode cX12_about 30 = .ok (.ireturn, 1) := by decide +kernel
set_option maxRecDepth 100000 in
set_option maxHeartbeats 4000000 in
theorem k_about (l : Launch) {D : va_G} {cI cZ : ClassId} {a0 : Nat} (σ : Nat → Nat → Int) (h : Int) (what : Int) (hσ : rg σ) (hc : cn (σ 1)) (r_h : inI h) (r_what : inI what) : moM l D cI cZ a0 yX12_about cX12_about 3 (some .int) 2 44 [.ref a0, .int (iz h), .int (iz what)] σ (some (.int (iz (if (0 ≤ h ∧ h ≤ σ 1 4 - 1) ∧ (0 ≤ what ∧ what ≤ 7) then σ 1 (280 + 8 * h.toNat + what.toNat) else -2)))) (σ) := by
  refine mo_start (by decide) rfl (Nat.le_of_ble_eq_true rfl) ?_
  intro p e s m args below meth c C K hr hlk
  refine hv_aload_n C 0 0 dX12_about_0 rfl rfl ?_
  refine hv_iload_n C 1 1 dX12_about_1 rfl rfl ?_
  refine hv_iconst C dX12_about_2 ?_
  refine mo_call [.int (iz h), .int (iz 4)] [] C K (k_isOf l σ h 4 hσ (by omega) (by omega) (by omega)) ck_isOf (by decide) rfl (Nat.le_of_ble_eq_true rfl) dX12_about_3 ?_
  refine hv_dif_eq C 28 dX12_about_6 (by decide)  (fun h6 => ?_) (fun h6 => ?_)
  · skip
    refine hv_bipush C dX12_about_28 (by decide) ?_
    exact mo_iret (Qc := fun _ _ _ _ => True) C hr hlk (by first | exact if_n (by omega) rfl | (refine if_p (by omega) ?_; subst_vars; simp)) rfl dX12_about_30
  · skip
    refine hv_iload_n C 2 2 dX12_about_9 rfl rfl ?_
    refine hv_iconst C dX12_about_10 ?_
    refine hv_bipush C dX12_about_11 (by decide) ?_
    refine mo_callS [.int (iz what), .int (iz 0), .int (iz 7)] [] C K (k_isIn l σ what 0 7 (by omega) (by omega) (by omega)) ck_isIn (by decide) rfl (Nat.le_of_ble_eq_true rfl) dX12_about_13 ?_
    refine hv_dif_eq C 28 dX12_about_16 (by decide)  (fun h16 => ?_) (fun h16 => ?_)
    · skip
      refine hv_bipush C dX12_about_28 (by decide) ?_
      exact mo_iret (Qc := fun _ _ _ _ => True) C hr hlk (by first | exact if_n (by omega) rfl | (refine if_p (by omega) ?_; subst_vars; simp)) rfl dX12_about_30
    · skip
      obtain ⟨hn, rfl⟩ : ∃ n : Nat, h = (n : Int) := ⟨(h).toNat, by omega⟩
      obtain ⟨wn, rfl⟩ : ∃ n : Nat, what = (n : Int) := ⟨(what).toNat, by omega⟩
      refine hv_aload_n C 0 0 dX12_about_19 rfl rfl ?_
      refine hv_iload_n C 1 1 dX12_about_20 rfl rfl ?_
      refine hv_iload_n C 2 2 dX12_about_21 rfl rfl ?_
      refine mo_call [.int (iz ((hn : Nat) : Int)), .int (iz ((wn : Nat) : Int))] [] C K (k_hourOf l σ hn wn (by omega) (by omega)) ck_hourOf (by decide) rfl (Nat.le_of_ble_eq_true rfl) dX12_about_22 ?_
      refine hv_nm (fun x1 ex1 => ?_)
      have rx1 : inI x1 := by rw [ex1]; exact hσ _ _
      refine hv_goto C 30 dX12_about_25 (by decide) ?_
      exact mo_iret (Qc := fun _ _ _ _ => True) C hr hlk (by first | exact if_n (by omega) rfl | (refine if_p (by omega) ?_; subst_vars; simp)) rfl dX12_about_30
theorem dX12_byteAt_0 : decode cX12_byteAt 0 = .ok (.iload_n 1, 1) := by decide +kernel
theorem dX12_byteAt_1 : decode cX12_byteAt 1 = .ok (.aload_n 0, 1) := by decide +kernel
theorem dX12_byteAt_2 : decode cX12_byteAt 2 = .ok (.getfield 91, 3) := by decide +kernel
theorem dX12_byteAt_5 : decode cX12_byteAt 5 = .ok (.if_icmp .ge 16, 3) := by decide +kernel
theorem dX12_byteAt_8 : decode cX12_byteAt 8 = .ok (.aload_n 0, 1) := by decide +kernel
theorem dX12_byteAt_9 : decode cX12_byteAt 9 = .ok (.getfield 7, 3) := by decide +kernel
theorem dX12_byteAt_12 : decode cX12_byteAt 12 = .ok (.sipush 1760, 3) := by decide +kernel
theorem dX12_byteAt_15 : decode cX12_byteAt 15 = .ok (.iload_n 1, 1) := by decide +kernel
theorem dX12_byteAt_16 : decode cX12_byteAt 16 = .ok (.iadd, 1) := by decide +kernel
theorem dX12_byteAt_17 : decode cX12_byteAt 17 = .ok (.iaload, 1) := by decide +kernel
theorem dX12_byteAt_18 : decode cX12_byteAt 18 = .ok (.goto 4, 3) := by decide +kernel
theorem dX12_byteAt_21 : decode cX12_byteAt 21 = .ok (.iconst (-1), 1) := by decide +kernel
theorem dX12_byteAt_22 : decode cX12_byteAt 22 = .ok (.ireturn, 1) := by decide +kernel
set_option maxRecDepth 100000 in
set_option maxHeartbeats 4000000 in
theorem k_byteAt (l : Launch) {D : va_G} {cI cZ : ClassId} {a0 : Nat} (σ : Nat → Nat → Int) (q : Int) (hσ : rg σ) (r_q : inI q) (hz : σ 0 2 ≤ 500) (h0 : 0 ≤ q) : moM l D cI cZ a0 yX12_byteAt cX12_byteAt 2 (some .int) 0 0 [.ref a0, .int (iz q)] σ (some (.int (iz (if q < σ 0 2 then σ 1 (1760 + q.toNat) else -1)))) (σ) := by
  refine mo_start (by decide) rfl (Nat.le_of_ble_eq_true rfl) ?_
  intro p e s m args below meth c C K hr hlk
  refine hv_iload_n C 1 1 dX12_byteAt_0 rfl rfl ?_
  refine hv_aload_n C 0 0 dX12_byteAt_1 rfl rfl ?_
  refine mo_geti C K (x := σ 0 2) 2 (by decide) rfl mo_hw fl_91 rfl dX12_byteAt_2 ?_
  refine hv_nm (fun x1 ex1 => ?_)
  have rx1 : inI x1 := by rw [ex1]; exact hσ 0 2
  refine hv_icmp_ge C 21 dX12_byteAt_5 (by decide) (by omega) (by omega) (fun h5 => ?_) (fun h5 => ?_)
  · skip
    refine hv_iconst C dX12_byteAt_21 ?_
    exact mo_iret (Qc := fun _ _ _ _ => True) C hr hlk (by first | exact if_n (by omega) rfl | (refine if_p (by omega) ?_; subst_vars; simp)) rfl dX12_byteAt_22
  · skip
    refine hv_aload_n C 0 0 dX12_byteAt_8 rfl rfl ?_
    refine mo_geta C K 0 1 (by decide) rfl mo_hw fl_7 rfl dX12_byteAt_9 ?_
    obtain ⟨qn, rfl⟩ : ∃ n : Nat, q = (n : Int) := ⟨(q).toNat, by omega⟩
    refine hv_sipush C dX12_byteAt_12 (by decide) ?_
    refine hv_iload_n C 1 1 dX12_byteAt_15 rfl rfl ?_
    refine hv_iadd C dX12_byteAt_16 ?_
    refine mo_iald C K 1 9040 (1760 + qn) rfl (by omega) (by omega) (by decide) dX12_byteAt_17 ?_
    refine hv_nm (fun x2 ex2 => ?_)
    have rx2 : inI x2 := by rw [ex2]; exact hσ 1 (1760 + qn)
    refine hv_goto C 22 dX12_byteAt_18 (by decide) ?_
    exact mo_iret (Qc := fun _ _ _ _ => True) C hr hlk (by first | exact if_n (by omega) rfl | (refine if_p (by omega) ?_; subst_vars; simp)) rfl dX12_byteAt_22
theorem dX12_isLetter_0 : decode cX12_isLetter 0 = .ok (.iload_n 0, 1) := by decide +kernel
theorem dX12_isLetter_1 : decode cX12_isLetter 1 = .ok (.bipush 97, 2) := by decide +kernel
theorem dX12_isLetter_3 : decode cX12_isLetter 3 = .ok (.if_icmp .lt 13, 3) := by decide +kernel
theorem dX12_isLetter_6 : decode cX12_isLetter 6 = .ok (.iload_n 0, 1) := by decide +kernel
theorem dX12_isLetter_7 : decode cX12_isLetter 7 = .ok (.bipush 122, 2) := by decide +kernel
theorem dX12_isLetter_9 : decode cX12_isLetter 9 = .ok (.if_icmp .gt 7, 3) := by decide +kernel
theorem dX12_isLetter_12 : decode cX12_isLetter 12 = .ok (.iconst 1, 1) := by decide +kernel
theorem dX12_isLetter_13 : decode cX12_isLetter 13 = .ok (.goto 4, 3) := by decide +kernel
theorem dX12_isLetter_16 : decode cX12_isLetter 16 = .ok (.iconst 0, 1) := by decide +kernel
theorem dX12_isLetter_17 : decode cX12_isLetter 17 = .ok (.ireturn, 1) := by decide +kernel
set_option maxRecDepth 100000 in
set_option maxHeartbeats 4000000 in
theorem k_isLetter (l : Launch) {D : va_G} {cI cZ : ClassId} {a0 : Nat} (σ : Nat → Nat → Int) (c0 : Int) (r_c0 : inI c0) : moM l D cI cZ a0 yX12_isLetter cX12_isLetter 1 (some .boolean) 0 0 [.int (iz c0)] σ (some (.int (iz (xb (decide (97 ≤ c0 ∧ c0 ≤ 122)))))) (σ) := by
  refine mo_start (by decide) rfl (Nat.le_of_ble_eq_true rfl) ?_
  intro p e s m args below meth c C K hr hlk
  refine hv_iload_n C 0 0 dX12_isLetter_0 rfl rfl ?_
  refine hv_bipush C dX12_isLetter_1 (by decide) ?_
  refine hv_icmp_lt C 16 dX12_isLetter_3 (by decide) (by omega) (by omega) (fun h3 => ?_) (fun h3 => ?_)
  · skip
    refine hv_iconst C dX12_isLetter_16 ?_
    exact mo_zret (Qc := fun _ _ _ _ => True) C hr hlk ((xb_f (decide_eq_false (by omega))).symm) rfl dX12_isLetter_17
  · skip
    refine hv_iload_n C 0 0 dX12_isLetter_6 rfl rfl ?_
    refine hv_bipush C dX12_isLetter_7 (by decide) ?_
    refine hv_icmp_gt C 16 dX12_isLetter_9 (by decide) (by omega) (by omega) (fun h9 => ?_) (fun h9 => ?_)
    · skip
      refine hv_iconst C dX12_isLetter_16 ?_
      exact mo_zret (Qc := fun _ _ _ _ => True) C hr hlk ((xb_f (decide_eq_false (by omega))).symm) rfl dX12_isLetter_17
    · skip
      refine hv_iconst C dX12_isLetter_12 ?_
      refine hv_goto C 17 dX12_isLetter_13 (by decide) ?_
      exact mo_zret (Qc := fun _ _ _ _ => True) C hr hlk ((xb_t (decide_eq_true (by omega))).symm) rfl dX12_isLetter_17
theorem dX12_isDigit_0 : decode cX12_isDigit 0 = .ok (.iload_n 0, 1) := by decide +kernel
theorem dX12_isDigit_1 : decode cX12_isDigit 1 = .ok (.bipush 48, 2) := by decide +kernel
theorem dX12_isDigit_3 : decode cX12_isDigit 3 = .ok (.if_icmp .lt 13, 3) := by decide +kernel
theorem dX12_isDigit_6 : decode cX12_isDigit 6 = .ok (.iload_n 0, 1) := by decide +kernel
theorem dX12_isDigit_7 : decode cX12_isDigit 7 = .ok (.bipush 57, 2) := by decide +kernel
theorem dX12_isDigit_9 : decode cX12_isDigit 9 = .ok (.if_icmp .gt 7, 3) := by decide +kernel
theorem dX12_isDigit_12 : decode cX12_isDigit 12 = .ok (.iconst 1, 1) := by decide +kernel
theorem dX12_isDigit_13 : decode cX12_isDigit 13 = .ok (.goto 4, 3) := by decide +kernel
theorem dX12_isDigit_16 : decode cX12_isDigit 16 = .ok (.iconst 0, 1) := by decide +kernel
theorem dX12_isDigit_17 : decode cX12_isDigit 17 = .ok (.ireturn, 1) := by decide +kernel
set_option maxRecDepth 100000 in
set_option maxHeartbeats 4000000 in
theorem k_isDigit (l : Launch) {D : va_G} {cI cZ : ClassId} {a0 : Nat} (σ : Nat → Nat → Int) (c0 : Int) (r_c0 : inI c0) : moM l D cI cZ a0 yX12_isDigit cX12_isDigit 1 (some .boolean) 0 0 [.int (iz c0)] σ (some (.int (iz (xb (decide (48 ≤ c0 ∧ c0 ≤ 57)))))) (σ) := by
  refine mo_start (by decide) rfl (Nat.le_of_ble_eq_true rfl) ?_
  intro p e s m args below meth c C K hr hlk
  refine hv_iload_n C 0 0 dX12_isDigit_0 rfl rfl ?_
  refine hv_bipush C dX12_isDigit_1 (by decide) ?_
  refine hv_icmp_lt C 16 dX12_isDigit_3 (by decide) (by omega) (by omega) (fun h3 => ?_) (fun h3 => ?_)
  · skip
    refine hv_iconst C dX12_isDigit_16 ?_
    exact mo_zret (Qc := fun _ _ _ _ => True) C hr hlk ((xb_f (decide_eq_false (by omega))).symm) rfl dX12_isDigit_17
  · skip
    refine hv_iload_n C 0 0 dX12_isDigit_6 rfl rfl ?_
    refine hv_bipush C dX12_isDigit_7 (by decide) ?_
    refine hv_icmp_gt C 16 dX12_isDigit_9 (by decide) (by omega) (by omega) (fun h9 => ?_) (fun h9 => ?_)
    · skip
      refine hv_iconst C dX12_isDigit_16 ?_
      exact mo_zret (Qc := fun _ _ _ _ => True) C hr hlk ((xb_f (decide_eq_false (by omega))).symm) rfl dX12_isDigit_17
    · skip
      refine hv_iconst C dX12_isDigit_12 ?_
      refine hv_goto C 17 dX12_isDigit_13 (by decide) ?_
      exact mo_zret (Qc := fun _ _ _ _ => True) C hr hlk ((xb_t (decide_eq_true (by omega))).symm) rfl dX12_isDigit_17
theorem dX12_isSignByte_0 : decode cX12_isSignByte 0 = .ok (.iload_n 0, 1) := by decide +kernel
theorem dX12_isSignByte_1 : decode cX12_isSignByte 1 = .ok (.bipush 58, 2) := by decide +kernel
theorem dX12_isSignByte_3 : decode cX12_isSignByte 3 = .ok (.if_icmp .eq 27, 3) := by decide +kernel
theorem dX12_isSignByte_6 : decode cX12_isSignByte 6 = .ok (.iload_n 0, 1) := by decide +kernel
theorem dX12_isSignByte_7 : decode cX12_isSignByte 7 = .ok (.bipush 59, 2) := by decide +kernel
theorem dX12_isSignByte_9 : decode cX12_isSignByte 9 = .ok (.if_icmp .eq 21, 3) := by decide +kernel
theorem dX12_isSignByte_12 : decode cX12_isSignByte 12 = .ok (.iload_n 0, 1) := by decide +kernel
theorem dX12_isSignByte_13 : decode cX12_isSignByte 13 = .ok (.bipush 60, 2) := by decide +kernel
theorem dX12_isSignByte_15 : decode cX12_isSignByte 15 = .ok (.if_icmp .eq 15, 3) := by decide +kernel
theorem dX12_isSignByte_18 : decode cX12_isSignByte 18 = .ok (.iload_n 0, 1) := by decide +kernel
theorem dX12_isSignByte_19 : decode cX12_isSignByte 19 = .ok (.bipush 62, 2) := by decide +kernel
theorem dX12_isSignByte_21 : decode cX12_isSignByte 21 = .ok (.if_icmp .eq 9, 3) := by decide +kernel
theorem dX12_isSignByte_24 : decode cX12_isSignByte 24 = .ok (.iload_n 0, 1) := by decide +kernel
theorem dX12_isSignByte_25 : decode cX12_isSignByte 25 = .ok (.bipush 61, 2) := by decide +kernel
theorem dX12_isSignByte_27 : decode cX12_isSignByte 27 = .ok (.if_icmp .ne 7, 3) := by decide +kernel
theorem dX12_isSignByte_30 : decode cX12_isSignByte 30 = .ok (.iconst 1, 1) := by decide +kernel
theorem dX12_isSignByte_31 : decode cX12_isSignByte 31 = .ok (.goto 4, 3) := by decide +kernel
theorem dX12_isSignByte_34 : decode cX12_isSignByte 34 = .ok (.iconst 0, 1) := by decide +kernel
theorem dX12_isSignByte_35 : decode cX12_isSignByte 35 = .ok (.ireturn, 1) := by decide +kernel
set_option maxRecDepth 100000 in
set_option maxHeartbeats 4000000 in
theorem k_isSignByte (l : Launch) {D : va_G} {cI cZ : ClassId} {a0 : Nat} (σ : Nat → Nat → Int) (c0 : Int) (r_c0 : inI c0) : moM l D cI cZ a0 yX12_isSignByte cX12_isSignByte 1 (some .boolean) 0 0 [.int (iz c0)] σ (some (.int (iz (xb (decide (c0 = 58 ∨ c0 = 59 ∨ c0 = 60 ∨ c0 = 62 ∨ c0 = 61)))))) (σ) := by
  refine mo_start (by decide) rfl (Nat.le_of_ble_eq_true rfl) ?_
  intro p e s m args below meth c C K hr hlk
  refine hv_iload_n C 0 0 dX12_isSignByte_0 rfl rfl ?_
  refine hv_bipush C dX12_isSignByte_1 (by decide) ?_
  refine hv_icmp_eq C 30 dX12_isSignByte_3 (by decide) (by omega) (by omega) (fun h3 => ?_) (fun h3 => ?_)
  · skip
    refine hv_iconst C dX12_isSignByte_30 ?_
    refine hv_goto C 35 dX12_isSignByte_31 (by decide) ?_
    exact mo_zret (Qc := fun _ _ _ _ => True) C hr hlk ((xb_t (decide_eq_true (by omega))).symm) rfl dX12_isSignByte_35
  · skip
    refine hv_iload_n C 0 0 dX12_isSignByte_6 rfl rfl ?_
    refine hv_bipush C dX12_isSignByte_7 (by decide) ?_
    refine hv_icmp_eq C 30 dX12_isSignByte_9 (by decide) (by omega) (by omega) (fun h9 => ?_) (fun h9 => ?_)
    · skip
      refine hv_iconst C dX12_isSignByte_30 ?_
      refine hv_goto C 35 dX12_isSignByte_31 (by decide) ?_
      exact mo_zret (Qc := fun _ _ _ _ => True) C hr hlk ((xb_t (decide_eq_true (by omega))).symm) rfl dX12_isSignByte_35
    · skip
      refine hv_iload_n C 0 0 dX12_isSignByte_12 rfl rfl ?_
      refine hv_bipush C dX12_isSignByte_13 (by decide) ?_
      refine hv_icmp_eq C 30 dX12_isSignByte_15 (by decide) (by omega) (by omega) (fun h15 => ?_) (fun h15 => ?_)
      · skip
        refine hv_iconst C dX12_isSignByte_30 ?_
        refine hv_goto C 35 dX12_isSignByte_31 (by decide) ?_
        exact mo_zret (Qc := fun _ _ _ _ => True) C hr hlk ((xb_t (decide_eq_true (by omega))).symm) rfl dX12_isSignByte_35
      · skip
        refine hv_iload_n C 0 0 dX12_isSignByte_18 rfl rfl ?_
        refine hv_bipush C dX12_isSignByte_19 (by decide) ?_
        refine hv_icmp_eq C 30 dX12_isSignByte_21 (by decide) (by omega) (by omega) (fun h21 => ?_) (fun h21 => ?_)
        · skip
          refine hv_iconst C dX12_isSignByte_30 ?_
          refine hv_goto C 35 dX12_isSignByte_31 (by decide) ?_
          exact mo_zret (Qc := fun _ _ _ _ => True) C hr hlk ((xb_t (decide_eq_true (by omega))).symm) rfl dX12_isSignByte_35
        · skip
          refine hv_iload_n C 0 0 dX12_isSignByte_24 rfl rfl ?_
          refine hv_bipush C dX12_isSignByte_25 (by decide) ?_
          refine hv_icmp_ne C 34 dX12_isSignByte_27 (by decide) (by omega) (by omega) (fun h27 => ?_) (fun h27 => ?_)
          · skip
            refine hv_iconst C dX12_isSignByte_34 ?_
            exact mo_zret (Qc := fun _ _ _ _ => True) C hr hlk ((xb_f (decide_eq_false (by omega))).symm) rfl dX12_isSignByte_35
          · skip
            refine hv_iconst C dX12_isSignByte_30 ?_
            refine hv_goto C 35 dX12_isSignByte_31 (by decide) ?_
            exact mo_zret (Qc := fun _ _ _ _ => True) C hr hlk ((xb_t (decide_eq_true (by omega))).symm) rfl dX12_isSignByte_35
theorem dX12_stops_0 : decode cX12_stops 0 = .ok (.aload_n 0, 1) := by decide +kernel
theorem dX12_stops_1 : decode cX12_stops 1 = .ok (.getfield 152, 3) := by decide +kernel
theorem dX12_stops_4 : decode cX12_stops 4 = .ok (.ifCond .eq 4, 3) := by decide +kernel
theorem dX12_stops_7 : decode cX12_stops 7 = .ok (.return_, 1) := by decide +kernel
theorem dX12_stops_8 : decode cX12_stops 8 = .ok (.aload_n 0, 1) := by decide +kernel
theorem dX12_stops_9 : decode cX12_stops 9 = .ok (.iconst 1, 1) := by decide +kernel
theorem dX12_stops_10 : decode cX12_stops 10 = .ok (.putfield 152, 3) := by decide +kernel
theorem dX12_stops_13 : decode cX12_stops 13 = .ok (.aload_n 0, 1) := by decide +kernel
theorem dX12_stops_14 : decode cX12_stops 14 = .ok (.getfield 7, 3) := by decide +kernel
theorem dX12_stops_17 : decode cX12_stops 17 = .ok (.bipush 11, 2) := by decide +kernel
theorem dX12_stops_19 : decode cX12_stops 19 = .ok (.iconst 1, 1) := by decide +kernel
theorem dX12_stops_20 : decode cX12_stops 20 = .ok (.iastore, 1) := by decide +kernel
theorem dX12_stops_21 : decode cX12_stops 21 = .ok (.aload_n 0, 1) := by decide +kernel
theorem dX12_stops_22 : decode cX12_stops 22 = .ok (.getfield 7, 3) := by decide +kernel
theorem dX12_stops_25 : decode cX12_stops 25 = .ok (.bipush 12, 2) := by decide +kernel
theorem dX12_stops_27 : decode cX12_stops 27 = .ok (.aload_n 0, 1) := by decide +kernel
theorem dX12_stops_28 : decode cX12_stops 28 = .ok (.getfield 124, 3) := by decide +kernel
theorem dX12_stops_31 : decode cX12_stops 31 = .ok (.iastore, 1) := by decide +kernel
theorem dX12_stops_32 : decode cX12_stops 32 = .ok (.return_, 1) := by decide +kernel
set_option maxRecDepth 100000 in
set_option maxHeartbeats 4000000 in
theorem k_stops (l : Launch) {D : va_G} {cI cZ : ClassId} {a0 : Nat} (σ : Nat → Nat → Int)  (hσ : rg σ) : moM l D cI cZ a0 yX12_stops cX12_stops 1 none 0 0 [.ref a0] σ none (if ¬ σ 0 9 = 0 then σ else u2 (u2 (u2 σ 0 9 1) 1 11 1) 1 12 (σ 0 4)) := by
  refine mo_start (by decide) rfl (Nat.le_of_ble_eq_true rfl) ?_
  intro p e s m args below meth c C K hr hlk
  refine hv_aload_n C 0 0 dX12_stops_0 rfl rfl ?_
  refine mo_geti C K (x := σ 0 9) 9 (by decide) rfl mo_hw fl_152 rfl dX12_stops_1 ?_
  refine hv_nm (fun x1 ex1 => ?_)
  have rx1 : inI x1 := by rw [ex1]; exact hσ 0 9
  refine hv_if_eq C 8 dX12_stops_4 (by decide) (by omega) (fun h4 => ?_) (fun h4 => ?_)
  · skip
    refine hv_aload_n C 0 0 dX12_stops_8 rfl rfl ?_
    refine hv_iconst C dX12_stops_9 ?_
    refine mo_puti C K (σ2 := u2 σ 0 9 1) 9 (by decide) rfl mo_hw fl_152 rfl rfl (ty := .boolean) (by decide +kernel) rfl rfl dX12_stops_10 ?_
    refine hv_aload_n C 0 0 dX12_stops_13 rfl rfl ?_
    refine mo_geta C K 0 1 (by decide) rfl mo_hw fl_7 rfl dX12_stops_14 ?_
    refine hv_bipush C dX12_stops_17 (by decide) ?_
    refine hv_iconst C dX12_stops_19 ?_
    refine mo_iast C K 1 9040 11 rfl (moW_set1 _ _ _ _ _ _) (by omega) (by omega) (by decide) dX12_stops_20 ?_
    refine hv_aload_n C 0 0 dX12_stops_21 rfl rfl ?_
    refine mo_geta C K 0 1 (by decide) rfl mo_hw fl_7 rfl dX12_stops_22 ?_
    refine hv_bipush C dX12_stops_25 (by decide) ?_
    refine hv_aload_n C 0 0 dX12_stops_27 rfl rfl ?_
    refine mo_geti C K (x := u2 (u2 σ 0 9 1) 1 11 1 0 4) 4 (by decide) rfl mo_hw fl_124 rfl dX12_stops_28 ?_
    refine hv_nm (fun x2 ex2 => ?_)
    refine mo_iast C K 1 9040 12 rfl (moW_set1 _ _ _ _ _ _) (by omega) (by omega) (by decide) dX12_stops_31 ?_
    exact mo_vret (Qc := fun _ _ _ _ => True) C hr hlk (by first | exact if_p (by omega) rfl | (refine if_n (by omega) ?_; subst_vars; simp [u2])) dX12_stops_32
  · skip
    exact mo_vret (Qc := fun _ _ _ _ => True) C hr hlk (by first | exact if_p (by omega) rfl | (refine if_n (by omega) ?_; subst_vars; simp [u2])) dX12_stops_7
theorem dX12_also_0 : decode cX12_also 0 = .ok (.aload_n 0, 1) := by decide +kernel
theorem dX12_also_1 : decode cX12_also 1 = .ok (.getfield 152, 3) := by decide +kernel
theorem dX12_also_4 : decode cX12_also 4 = .ok (.ifCond .ne 13, 3) := by decide +kernel
theorem dX12_also_7 : decode cX12_also 7 = .ok (.aload_n 0, 1) := by decide +kernel
theorem dX12_also_8 : decode cX12_also 8 = .ok (.getfield 7, 3) := by decide +kernel
theorem dX12_also_11 : decode cX12_also 11 = .ok (.bipush 11, 2) := by decide +kernel
theorem dX12_also_13 : decode cX12_also 13 = .ok (.iaload, 1) := by decide +kernel
theorem dX12_also_14 : decode cX12_also 14 = .ok (.ifCond .eq 4, 3) := by decide +kernel
theorem dX12_also_17 : decode cX12_also 17 = .ok (.return_, 1) := by decide +kernel
theorem dX12_also_18 : decode cX12_also 18 = .ok (.aload_n 0, 1) := by decide +kernel
theorem dX12_also_19 : decode cX12_also 19 = .ok (.getfield 7, 3) := by decide +kernel
theorem dX12_also_22 : decode cX12_also 22 = .ok (.bipush 11, 2) := by decide +kernel
theorem dX12_also_24 : decode cX12_also 24 = .ok (.iconst 3, 1) := by decide +kernel
theorem dX12_also_25 : decode cX12_also 25 = .ok (.iastore, 1) := by decide +kernel
theorem dX12_also_26 : decode cX12_also 26 = .ok (.aload_n 0, 1) := by decide +kernel
theorem dX12_also_27 : decode cX12_also 27 = .ok (.getfield 7, 3) := by decide +kernel
theorem dX12_also_30 : decode cX12_also 30 = .ok (.bipush 12, 2) := by decide +kernel
theorem dX12_also_32 : decode cX12_also 32 = .ok (.aload_n 0, 1) := by decide +kernel
theorem dX12_also_33 : decode cX12_also 33 = .ok (.getfield 124, 3) := by decide +kernel
theorem dX12_also_36 : decode cX12_also 36 = .ok (.iastore, 1) := by decide +kernel
theorem dX12_also_37 : decode cX12_also 37 = .ok (.return_, 1) := by decide +kernel
set_option maxRecDepth 100000 in
set_option maxHeartbeats 4000000 in
theorem k_also (l : Launch) {D : va_G} {cI cZ : ClassId} {a0 : Nat} (σ : Nat → Nat → Int)  (hσ : rg σ) : moM l D cI cZ a0 yX12_also cX12_also 1 none 0 0 [.ref a0] σ none (if ¬ σ 0 9 = 0 ∨ ¬ σ 1 11 = 0 then σ else u2 (u2 σ 1 11 3) 1 12 (σ 0 4)) := by
  refine mo_start (by decide) rfl (Nat.le_of_ble_eq_true rfl) ?_
  intro p e s m args below meth c C K hr hlk
  refine hv_aload_n C 0 0 dX12_also_0 rfl rfl ?_
  refine mo_geti C K (x := σ 0 9) 9 (by decide) rfl mo_hw fl_152 rfl dX12_also_1 ?_
  refine hv_nm (fun x1 ex1 => ?_)
  have rx1 : inI x1 := by rw [ex1]; exact hσ 0 9
  refine hv_if_ne C 17 dX12_also_4 (by decide) (by omega) (fun h4 => ?_) (fun h4 => ?_)
  · skip
    exact mo_vret (Qc := fun _ _ _ _ => True) C hr hlk (by first | exact if_p (by omega) rfl | (refine if_n (by omega) ?_; subst_vars; simp [u2])) dX12_also_17
  · skip
    refine hv_aload_n C 0 0 dX12_also_7 rfl rfl ?_
    refine mo_geta C K 0 1 (by decide) rfl mo_hw fl_7 rfl dX12_also_8 ?_
    refine hv_bipush C dX12_also_11 (by decide) ?_
    refine mo_iald C K 1 9040 11 rfl (by omega) (by omega) (by decide) dX12_also_13 ?_
    refine hv_nm (fun x2 ex2 => ?_)
    have rx2 : inI x2 := by rw [ex2]; exact hσ 1 11
    refine hv_if_eq C 18 dX12_also_14 (by decide) (by omega) (fun h14 => ?_) (fun h14 => ?_)
    · skip
      refine hv_aload_n C 0 0 dX12_also_18 rfl rfl ?_
      refine mo_geta C K 0 1 (by decide) rfl mo_hw fl_7 rfl dX12_also_19 ?_
      refine hv_bipush C dX12_also_22 (by decide) ?_
      refine hv_iconst C dX12_also_24 ?_
      refine mo_iast C K 1 9040 11 rfl (moW_set1 _ _ _ _ _ _) (by omega) (by omega) (by decide) dX12_also_25 ?_
      refine hv_aload_n C 0 0 dX12_also_26 rfl rfl ?_
      refine mo_geta C K 0 1 (by decide) rfl mo_hw fl_7 rfl dX12_also_27 ?_
      refine hv_bipush C dX12_also_30 (by decide) ?_
      refine hv_aload_n C 0 0 dX12_also_32 rfl rfl ?_
      refine mo_geti C K (x := u2 σ 1 11 3 0 4) 4 (by decide) rfl mo_hw fl_124 rfl dX12_also_33 ?_
      refine hv_nm (fun x3 ex3 => ?_)
      refine mo_iast C K 1 9040 12 rfl (moW_set1 _ _ _ _ _ _) (by omega) (by omega) (by decide) dX12_also_36 ?_
      exact mo_vret (Qc := fun _ _ _ _ => True) C hr hlk (by first | exact if_p (by omega) rfl | (refine if_n (by omega) ?_; subst_vars; simp [u2])) dX12_also_37
    · skip
      exact mo_vret (Qc := fun _ _ _ _ => True) C hr hlk (by first | exact if_p (by omega) rfl | (refine if_n (by omega) ?_; subst_vars; simp [u2])) dX12_also_17
theorem dX12_fault_0 : decode cX12_fault 0 = .ok (.iload_n 1, 1) := by decide +kernel
theorem dX12_fault_1 : decode cX12_fault 1 = .ok (.ifCond .ne 13, 3) := by decide +kernel
theorem dX12_fault_4 : decode cX12_fault 4 = .ok (.aload_n 0, 1) := by decide +kernel
theorem dX12_fault_5 : decode cX12_fault 5 = .ok (.getfield 7, 3) := by decide +kernel
theorem dX12_fault_8 : decode cX12_fault 8 = .ok (.bipush 11, 2) := by decide +kernel
theorem dX12_fault_10 : decode cX12_fault 10 = .ok (.iaload, 1) := by decide +kernel
theorem dX12_fault_11 : decode cX12_fault 11 = .ok (.goto 19, 3) := by decide +kernel
theorem dX12_fault_14 : decode cX12_fault 14 = .ok (.iload_n 1, 1) := by decide +kernel
theorem dX12_fault_15 : decode cX12_fault 15 = .ok (.iconst 1, 1) := by decide +kernel
theorem dX12_fault_16 : decode cX12_fault 16 = .ok (.if_icmp .ne 13, 3) := by decide +kernel
theorem dX12_fault_19 : decode cX12_fault 19 = .ok (.aload_n 0, 1) := by decide +kernel
theorem dX12_fault_20 : decode cX12_fault 20 = .ok (.getfield 7, 3) := by decide +kernel
theorem dX12_fault_23 : decode cX12_fault 23 = .ok (.bipush 12, 2) := by decide +kernel
theorem dX12_fault_25 : decode cX12_fault 25 = .ok (.iaload, 1) := by decide +kernel
theorem dX12_fault_26 : decode cX12_fault 26 = .ok (.goto 4, 3) := by decide +kernel
theorem dX12_fault_29 : decode cX12_fault 29 = .ok (.iconst (-1), 1) := by decide +kernel
theorem dX12_fault_30 : decode cX12_fault 30 = .ok (.ireturn, 1) := by decide +kernel
set_option maxRecDepth 100000 in
set_option maxHeartbeats 4000000 in
theorem k_fault (l : Launch) {D : va_G} {cI cZ : ClassId} {a0 : Nat} (σ : Nat → Nat → Int) (what : Int) (hσ : rg σ) (r_what : inI what) : moM l D cI cZ a0 yX12_fault cX12_fault 2 (some .int) 0 0 [.ref a0, .int (iz what)] σ (some (.int (iz (if what = 0 then σ 1 11 else if what = 1 then σ 1 12 else -1)))) (σ) := by
  refine mo_start (by decide) rfl (Nat.le_of_ble_eq_true rfl) ?_
  intro p e s m args below meth c C K hr hlk
  refine hv_iload_n C 1 1 dX12_fault_0 rfl rfl ?_
  refine hv_if_ne C 14 dX12_fault_1 (by decide) (by omega) (fun h1 => ?_) (fun h1 => ?_)
  · skip
    refine hv_iload_n C 1 1 dX12_fault_14 rfl rfl ?_
    refine hv_iconst C dX12_fault_15 ?_
    refine hv_icmp_ne C 29 dX12_fault_16 (by decide) (by omega) (by omega) (fun h16 => ?_) (fun h16 => ?_)
    · skip
      refine hv_iconst C dX12_fault_29 ?_
      exact mo_iret (Qc := fun _ _ _ _ => True) C hr hlk (by subst_vars; simp_all) rfl dX12_fault_30
    · skip
      refine hv_aload_n C 0 0 dX12_fault_19 rfl rfl ?_
      refine mo_geta C K 0 1 (by decide) rfl mo_hw fl_7 rfl dX12_fault_20 ?_
      refine hv_bipush C dX12_fault_23 (by decide) ?_
      refine mo_iald C K 1 9040 12 rfl (by omega) (by omega) (by decide) dX12_fault_25 ?_
      refine hv_nm (fun x1 ex1 => ?_)
      have rx1 : inI x1 := by rw [ex1]; exact hσ 1 12
      refine hv_goto C 30 dX12_fault_26 (by decide) ?_
      exact mo_iret (Qc := fun _ _ _ _ => True) C hr hlk (by subst_vars; simp_all) rfl dX12_fault_30
  · skip
    refine hv_aload_n C 0 0 dX12_fault_4 rfl rfl ?_
    refine mo_geta C K 0 1 (by decide) rfl mo_hw fl_7 rfl dX12_fault_5 ?_
    refine hv_bipush C dX12_fault_8 (by decide) ?_
    refine mo_iald C K 1 9040 11 rfl (by omega) (by omega) (by decide) dX12_fault_10 ?_
    refine hv_nm (fun x2 ex2 => ?_)
    have rx2 : inI x2 := by rw [ex2]; exact hσ 1 11
    refine hv_goto C 30 dX12_fault_11 (by decide) ?_
    exact mo_iret (Qc := fun _ _ _ _ => True) C hr hlk (by subst_vars; simp_all) rfl dX12_fault_30
theorem dX12_isPart_0 : decode cX12_isPart 0 = .ok (.aload_n 0, 1) := by decide +kernel
theorem dX12_isPart_1 : decode cX12_isPart 1 = .ok (.iload_n 1, 1) := by decide +kernel
theorem dX12_isPart_2 : decode cX12_isPart 2 = .ok (.invokevirtual 213, 3) := by decide +kernel
theorem dX12_isPart_5 : decode cX12_isPart 5 = .ok (.ifCond .eq 23, 3) := by decide +kernel
theorem dX12_isPart_8 : decode cX12_isPart 8 = .ok (.iload_n 2, 1) := by decide +kernel
theorem dX12_isPart_9 : decode cX12_isPart 9 = .ok (.iconst 0, 1) := by decide +kernel
theorem dX12_isPart_10 : decode cX12_isPart 10 = .ok (.aload_n 0, 1) := by decide +kernel
theorem dX12_isPart_11 : decode cX12_isPart 11 = .ok (.iload_n 1, 1) := by decide +kernel
theorem dX12_isPart_12 : decode cX12_isPart 12 = .ok (.iconst 3, 1) := by decide +kernel
theorem dX12_isPart_13 : decode cX12_isPart 13 = .ok (.invokevirtual 67, 3) := by decide +kernel
theorem dX12_isPart_16 : decode cX12_isPart 16 = .ok (.iconst 1, 1) := by decide +kernel
theorem dX12_isPart_17 : decode cX12_isPart 17 = .ok (.isub, 1) := by decide +kernel
theorem dX12_isPart_18 : decode cX12_isPart 18 = .ok (.invokestatic 59, 3) := by decide +kernel
theorem dX12_isPart_21 : decode cX12_isPart 21 = .ok (.ifCond .eq 7, 3) := by decide +kernel
theorem dX12_isPart_24 : decode cX12_isPart 24 = .ok (.iconst 1, 1) := by decide +kernel
theorem dX12_isPart_25 : decode cX12_isPart 25 = .ok (.goto 4, 3) := by decide +kernel
theorem dX12_isPart_28 : decode cX12_isPart 28 = .ok (.iconst 0, 1) := by decide +kernel
theorem dX12_isPart_29 : decode cX12_isPart 29 = .ok (.ireturn, 1) := by decide +kernel
set_option maxRecDepth 100000 in
set_option maxHeartbeats 4000000 in
theorem k_isPart (l : Launch) {D : va_G} {cI cZ : ClassId} {a0 : Nat} (σ : Nat → Nat → Int) (h : Int) (i : Int) (hσ : rg σ) (hc : cn (σ 1)) (hh : hi (σ 1)) (r_h : inI h) (r_i : inI i) : moM l D cI cZ a0 yX12_isPart cX12_isPart 3 (some .boolean) 3 65 [.ref a0, .int (iz h), .int (iz i)] σ (some (.int (iz (xb (decide (((0 ≤ h ∧ h ≤ σ 1 4 - 1) ∧ (σ 1 9 = -1 ∨ σ 1 ((280 + (8 * h.toNat)) + 7) ≤ σ 1 9)) ∧ (0 ≤ i ∧ i ≤ σ 1 ((280 + (8 * h.toNat)) + 3) - 1))))))) (σ) := by
  refine mo_start (by decide) rfl (Nat.le_of_ble_eq_true rfl) ?_
  intro p e s m args below meth c C K hr hlk
  refine hv_aload_n C 0 0 dX12_isPart_0 rfl rfl ?_
  refine hv_iload_n C 1 1 dX12_isPart_1 rfl rfl ?_
  refine mo_call [.int (iz h)] [] C K (k_isHour l σ h hσ (by omega) (by omega)) ck_isHour (by decide) rfl (Nat.le_of_ble_eq_true rfl) dX12_isPart_2 ?_
  refine hv_dif_eq C 28 dX12_isPart_5 (by decide)  (fun h5 => ?_) (fun h5 => ?_)
  · skip
    refine hv_iconst C dX12_isPart_28 ?_
    exact mo_zret (Qc := fun _ _ _ _ => True) C hr hlk ((xb_f (decide_eq_false (by (try simp only [Int.toNat_natCast] at *); omega))).symm) rfl dX12_isPart_29
  · skip
    obtain ⟨hn, rfl⟩ : ∃ n : Nat, h = (n : Int) := ⟨(h).toNat, by omega⟩
    have hhn := hh hn (by omega)
    (try simp only [Int.toNat_natCast] at *)
    refine hv_iload_n C 2 2 dX12_isPart_8 rfl rfl ?_
    refine hv_iconst C dX12_isPart_9 ?_
    refine hv_aload_n C 0 0 dX12_isPart_10 rfl rfl ?_
    refine hv_iload_n C 1 1 dX12_isPart_11 rfl rfl ?_
    refine hv_iconst C dX12_isPart_12 ?_
    refine mo_call [.int (iz ((hn : Nat) : Int)), .int (iz 3)] [.int (iz 0), .int (iz i)] C K (k_hourOf l σ hn 3 (by omega) (by omega)) ck_hourOf (by decide) rfl (Nat.le_of_ble_eq_true rfl) dX12_isPart_13 ?_
    refine hv_nm (fun x1 ex1 => ?_)
    have rx1 : inI x1 := by rw [ex1]; exact hσ _ _
    refine hv_iconst C dX12_isPart_16 ?_
    refine hv_isub C dX12_isPart_17 ?_
    refine mo_callS [.int (iz i), .int (iz 0), .int (iz (x1 - 1))] [] C K (k_isIn l σ i 0 (x1 - 1) (by omega) (by omega) (by omega)) ck_isIn (by decide) rfl (Nat.le_of_ble_eq_true rfl) dX12_isPart_18 ?_
    refine hv_dif_eq C 28 dX12_isPart_21 (by decide)  (fun h21 => ?_) (fun h21 => ?_)
    · skip
      refine hv_iconst C dX12_isPart_28 ?_
      exact mo_zret (Qc := fun _ _ _ _ => True) C hr hlk ((xb_f (decide_eq_false (by (try simp only [Int.toNat_natCast] at *); omega))).symm) rfl dX12_isPart_29
    · skip
      refine hv_iconst C dX12_isPart_24 ?_
      refine hv_goto C 29 dX12_isPart_25 (by decide) ?_
      exact mo_zret (Qc := fun _ _ _ _ => True) C hr hlk ((xb_t (decide_eq_true (by (try simp only [Int.toNat_natCast] at *); omega))).symm) rfl dX12_isPart_29
theorem dX12_isAsked_0 : decode cX12_isAsked 0 = .ok (.aload_n 0, 1) := by decide +kernel
theorem dX12_isAsked_1 : decode cX12_isAsked 1 = .ok (.iload_n 1, 1) := by decide +kernel
theorem dX12_isAsked_2 : decode cX12_isAsked 2 = .ok (.iconst 2, 1) := by decide +kernel
theorem dX12_isAsked_3 : decode cX12_isAsked 3 = .ok (.invokevirtual 63, 3) := by decide +kernel
theorem dX12_isAsked_6 : decode cX12_isAsked 6 = .ok (.ifCond .eq 31, 3) := by decide +kernel
theorem dX12_isAsked_9 : decode cX12_isAsked 9 = .ok (.aload_n 0, 1) := by decide +kernel
theorem dX12_isAsked_10 : decode cX12_isAsked 10 = .ok (.iload_n 2, 1) := by decide +kernel
theorem dX12_isAsked_11 : decode cX12_isAsked 11 = .ok (.invokevirtual 213, 3) := by decide +kernel
theorem dX12_isAsked_14 : decode cX12_isAsked 14 = .ok (.ifCond .eq 23, 3) := by decide +kernel
theorem dX12_isAsked_17 : decode cX12_isAsked 17 = .ok (.iload_n 3, 1) := by decide +kernel
theorem dX12_isAsked_18 : decode cX12_isAsked 18 = .ok (.iconst 0, 1) := by decide +kernel
theorem dX12_isAsked_19 : decode cX12_isAsked 19 = .ok (.aload_n 0, 1) := by decide +kernel
theorem dX12_isAsked_20 : decode cX12_isAsked 20 = .ok (.iload_n 2, 1) := by decide +kernel
theorem dX12_isAsked_21 : decode cX12_isAsked 21 = .ok (.iconst 3, 1) := by decide +kernel
theorem dX12_isAsked_22 : decode cX12_isAsked 22 = .ok (.invokevirtual 67, 3) := by decide +kernel
theorem dX12_isAsked_25 : decode cX12_isAsked 25 = .ok (.iconst 1, 1) := by decide +kernel
theorem dX12_isAsked_26 : decode cX12_isAsked 26 = .ok (.isub, 1) := by decide +kernel
theorem dX12_isAsked_27 : decode cX12_isAsked 27 = .ok (.invokestatic 59, 3) := by decide +kernel
theorem dX12_isAsked_30 : decode cX12_isAsked 30 = .ok (.ifCond .eq 7, 3) := by decide +kernel
theorem dX12_isAsked_33 : decode cX12_isAsked 33 = .ok (.iconst 1, 1) := by decide +kernel
theorem dX12_isAsked_34 : decode cX12_isAsked 34 = .ok (.goto 4, 3) := by decide +kernel
theorem dX12_isAsked_37 : decode cX12_isAsked 37 = .ok (.iconst 0, 1) := by decide +kernel
theorem dX12_isAsked_38 : decode cX12_isAsked 38 = .ok (.ireturn, 1) := by decide +kernel
set_option maxRecDepth 100000 in
set_option maxHeartbeats 4000000 in
theorem k_isAsked (l : Launch) {D : va_G} {cI cZ : ClassId} {a0 : Nat} (σ : Nat → Nat → Int) (st : Int) (h : Int) (i : Int) (hσ : rg σ) (hc : cn (σ 1)) (hh : hi (σ 1)) (r_st : inI st) (r_h : inI h) (r_i : inI i) : moM l D cI cZ a0 yX12_isAsked cX12_isAsked 4 (some .boolean) 3 65 [.ref a0, .int (iz st), .int (iz h), .int (iz i)] σ (some (.int (iz (xb (decide ((0 ≤ st ∧ st ≤ σ 1 2 - 1) ∧ ((0 ≤ h ∧ h ≤ σ 1 4 - 1) ∧ (σ 1 9 = -1 ∨ σ 1 ((280 + (8 * h.toNat)) + 7) ≤ σ 1 9)) ∧ (0 ≤ i ∧ i ≤ σ 1 ((280 + (8 * h.toNat)) + 3) - 1))))))) (σ) := by
  refine mo_start (by decide) rfl (Nat.le_of_ble_eq_true rfl) ?_
  intro p e s m args below meth c C K hr hlk
  refine hv_aload_n C 0 0 dX12_isAsked_0 rfl rfl ?_
  refine hv_iload_n C 1 1 dX12_isAsked_1 rfl rfl ?_
  refine hv_iconst C dX12_isAsked_2 ?_
  refine mo_call [.int (iz st), .int (iz 2)] [] C K (k_isOf l σ st 2 hσ (by omega) (by omega) (by omega)) ck_isOf (by decide) rfl (Nat.le_of_ble_eq_true rfl) dX12_isAsked_3 ?_
  refine hv_dif_eq C 37 dX12_isAsked_6 (by decide)  (fun h6 => ?_) (fun h6 => ?_)
  · skip
    refine hv_iconst C dX12_isAsked_37 ?_
    exact mo_zret (Qc := fun _ _ _ _ => True) C hr hlk ((xb_f (decide_eq_false (by (try simp only [Int.toNat_natCast] at *); omega))).symm) rfl dX12_isAsked_38
  · skip
    refine hv_aload_n C 0 0 dX12_isAsked_9 rfl rfl ?_
    refine hv_iload_n C 2 2 dX12_isAsked_10 rfl rfl ?_
    refine mo_call [.int (iz h)] [] C K (k_isHour l σ h hσ (by omega) (by omega)) ck_isHour (by decide) rfl (Nat.le_of_ble_eq_true rfl) dX12_isAsked_11 ?_
    refine hv_dif_eq C 37 dX12_isAsked_14 (by decide)  (fun h14 => ?_) (fun h14 => ?_)
    · skip
      refine hv_iconst C dX12_isAsked_37 ?_
      exact mo_zret (Qc := fun _ _ _ _ => True) C hr hlk ((xb_f (decide_eq_false (by (try simp only [Int.toNat_natCast] at *); omega))).symm) rfl dX12_isAsked_38
    · skip
      obtain ⟨hn, rfl⟩ : ∃ n : Nat, h = (n : Int) := ⟨(h).toNat, by omega⟩
      have hhn := hh hn (by omega)
      (try simp only [Int.toNat_natCast] at *)
      refine hv_iload_n C 3 3 dX12_isAsked_17 rfl rfl ?_
      refine hv_iconst C dX12_isAsked_18 ?_
      refine hv_aload_n C 0 0 dX12_isAsked_19 rfl rfl ?_
      refine hv_iload_n C 2 2 dX12_isAsked_20 rfl rfl ?_
      refine hv_iconst C dX12_isAsked_21 ?_
      refine mo_call [.int (iz ((hn : Nat) : Int)), .int (iz 3)] [.int (iz 0), .int (iz i)] C K (k_hourOf l σ hn 3 (by omega) (by omega)) ck_hourOf (by decide) rfl (Nat.le_of_ble_eq_true rfl) dX12_isAsked_22 ?_
      refine hv_nm (fun x1 ex1 => ?_)
      have rx1 : inI x1 := by rw [ex1]; exact hσ _ _
      refine hv_iconst C dX12_isAsked_25 ?_
      refine hv_isub C dX12_isAsked_26 ?_
      refine mo_callS [.int (iz i), .int (iz 0), .int (iz (x1 - 1))] [] C K (k_isIn l σ i 0 (x1 - 1) (by omega) (by omega) (by omega)) ck_isIn (by decide) rfl (Nat.le_of_ble_eq_true rfl) dX12_isAsked_27 ?_
      refine hv_dif_eq C 37 dX12_isAsked_30 (by decide)  (fun h30 => ?_) (fun h30 => ?_)
      · skip
        refine hv_iconst C dX12_isAsked_37 ?_
        exact mo_zret (Qc := fun _ _ _ _ => True) C hr hlk ((xb_f (decide_eq_false (by (try simp only [Int.toNat_natCast] at *); omega))).symm) rfl dX12_isAsked_38
      · skip
        refine hv_iconst C dX12_isAsked_33 ?_
        refine hv_goto C 38 dX12_isAsked_34 (by decide) ?_
        exact mo_zret (Qc := fun _ _ _ _ => True) C hr hlk ((xb_t (decide_eq_true (by (try simp only [Int.toNat_natCast] at *); omega))).symm) rfl dX12_isAsked_38
theorem dX12_lineAt_0 : decode cX12_lineAt 0 = .ok (.aload_n 0, 1) := by decide +kernel
theorem dX12_lineAt_1 : decode cX12_lineAt 1 = .ok (.getfield 7, 3) := by decide +kernel
theorem dX12_lineAt_4 : decode cX12_lineAt 4 = .ok (.sipush 800, 3) := by decide +kernel
theorem dX12_lineAt_7 : decode cX12_lineAt 7 = .ok (.sipush 320, 3) := by decide +kernel
theorem dX12_lineAt_10 : decode cX12_lineAt 10 = .ok (.aload_n 0, 1) := by decide +kernel
theorem dX12_lineAt_11 : decode cX12_lineAt 11 = .ok (.iload_n 1, 1) := by decide +kernel
theorem dX12_lineAt_12 : decode cX12_lineAt 12 = .ok (.iconst 0, 1) := by decide +kernel
theorem dX12_lineAt_13 : decode cX12_lineAt 13 = .ok (.invokevirtual 67, 3) := by decide +kernel
theorem dX12_lineAt_16 : decode cX12_lineAt 16 = .ok (.imul, 1) := by decide +kernel
theorem dX12_lineAt_17 : decode cX12_lineAt 17 = .ok (.iadd, 1) := by decide +kernel
theorem dX12_lineAt_18 : decode cX12_lineAt 18 = .ok (.bipush 20, 2) := by decide +kernel
theorem dX12_lineAt_20 : decode cX12_lineAt 20 = .ok (.iload_n 2, 1) := by decide +kernel
theorem dX12_lineAt_21 : decode cX12_lineAt 21 = .ok (.imul, 1) := by decide +kernel
theorem dX12_lineAt_22 : decode cX12_lineAt 22 = .ok (.iadd, 1) := by decide +kernel
theorem dX12_lineAt_23 : decode cX12_lineAt 23 = .ok (.iload_n 3, 1) := by decide +kernel
theorem dX12_lineAt_24 : decode cX12_lineAt 24 = .ok (.iadd, 1) := by decide +kernel
theorem dX12_lineAt_25 : decode cX12_lineAt 25 = .ok (.iaload, 1) := by decide +kernel
theorem dX12_lineAt_26 : decode cX12_lineAt 26 = .ok (.ireturn, 1) := by decide +kernel
set_option maxRecDepth 100000 in
set_option maxHeartbeats 4000000 in
theorem k_lineAt (l : Launch) {D : va_G} {cI cZ : ClassId} {a0 : Nat} (σ : Nat → Nat → Int) (h : Nat) (k : Nat) (what : Nat) (hσ : rg σ) (hc : cn (σ 1)) (hh : hi (σ 1)) (h1 : (h : Int) < σ 1 4) (h2 : k < 16) (h3 : what < 20) : moM l D cI cZ a0 yX12_lineAt cX12_lineAt 4 (some .int) 1 22 [.ref a0, .int (iz ((h : Nat) : Int)), .int (iz ((k : Nat) : Int)), .int (iz ((what : Nat) : Int))] σ (some (.int (iz (la (σ 1) h k what)))) (σ) := by
  refine mo_start (by decide) rfl (Nat.le_of_ble_eq_true rfl) ?_
  intro p e s m args below meth c C K hr hlk
  have hhn := hh h (by omega)
  refine hv_aload_n C 0 0 dX12_lineAt_0 rfl rfl ?_
  refine mo_geta C K 0 1 (by decide) rfl mo_hw fl_7 rfl dX12_lineAt_1 ?_
  refine hv_sipush C dX12_lineAt_4 (by decide) ?_
  refine hv_sipush C dX12_lineAt_7 (by decide) ?_
  refine hv_aload_n C 0 0 dX12_lineAt_10 rfl rfl ?_
  refine hv_iload_n C 1 1 dX12_lineAt_11 rfl rfl ?_
  refine hv_iconst C dX12_lineAt_12 ?_
  refine mo_call [.int (iz ((h : Nat) : Int)), .int (iz 0)] [.int (iz 320), .int (iz 800), .ref (a0 + 1)] C K (k_hourOf l σ h 0 (by omega) (by omega)) ck_hourOf (by decide) rfl (Nat.le_of_ble_eq_true rfl) dX12_lineAt_13 ?_
  refine hv_nm (fun x1 ex1 => ?_)
  have rx1 : inI x1 := by rw [ex1]; exact hσ _ _
  obtain ⟨nw, rfl⟩ : ∃ n : Nat, x1 = (n : Int) := ⟨(x1).toNat, by omega⟩
  refine hv_imul C dX12_lineAt_16 ?_
  refine hv_iadd C dX12_lineAt_17 ?_
  refine hv_bipush C dX12_lineAt_18 (by decide) ?_
  refine hv_iload_n C 2 2 dX12_lineAt_20 rfl rfl ?_
  refine hv_imul C dX12_lineAt_21 ?_
  refine hv_iadd C dX12_lineAt_22 ?_
  refine hv_iload_n C 3 3 dX12_lineAt_23 rfl rfl ?_
  refine hv_iadd C dX12_lineAt_24 ?_
  refine mo_iald C K 1 9040 (((800 + (320 * nw)) + (20 * k)) + what) rfl (by omega) (by omega) (by decide) dX12_lineAt_25 ?_
  refine hv_nm (fun x2 ex2 => ?_)
  have rx2 : inI x2 := by rw [ex2]; exact hσ 1 (((800 + (320 * nw)) + (20 * k)) + what)
  exact mo_iret (Qc := fun _ _ _ _ => True) C hr hlk (by subst_vars; have hq : (σ 1 (280 + 8 * h + 0)).toNat = nw := (by omega); show _ = σ 1 (800 + 320 * (σ 1 (280 + 8 * h + 0)).toNat + 20 * k + what); rw [hq]) rfl dX12_lineAt_26
theorem dX12_areDays_0 : decode cX12_areDays 0 = .ok (.iload_n 0, 1) := by decide +kernel
theorem dX12_areDays_1 : decode cX12_areDays 1 = .ok (.invokestatic 75, 3) := by decide +kernel
theorem dX12_areDays_4 : decode cX12_areDays 4 = .ok (.ifCond .eq 18, 3) := by decide +kernel
theorem dX12_areDays_7 : decode cX12_areDays 7 = .ok (.iload_n 1, 1) := by decide +kernel
theorem dX12_areDays_8 : decode cX12_areDays 8 = .ok (.iload_n 0, 1) := by decide +kernel
theorem dX12_areDays_9 : decode cX12_areDays 9 = .ok (.sipush 199, 3) := by decide +kernel
theorem dX12_areDays_12 : decode cX12_areDays 12 = .ok (.invokestatic 59, 3) := by decide +kernel
theorem dX12_areDays_15 : decode cX12_areDays 15 = .ok (.ifCond .eq 7, 3) := by decide +kernel
theorem dX12_areDays_18 : decode cX12_areDays 18 = .ok (.iconst 1, 1) := by decide +kernel
theorem dX12_areDays_19 : decode cX12_areDays 19 = .ok (.goto 4, 3) := by decide +kernel
theorem dX12_areDays_22 : decode cX12_areDays 22 = .ok (.iconst 0, 1) := by decide +kernel
theorem dX12_areDays_23 : decode cX12_areDays 23 = .ok (.ireturn, 1) := by decide +kernel
set_option maxRecDepth 100000 in
set_option maxHeartbeats 4000000 in
theorem k_areDays (l : Launch) {D : va_G} {cI cZ : ClassId} {a0 : Nat} (σ : Nat → Nat → Int) (a : Int) (b : Int) (r_a : inI a) (r_b : inI b) : moM l D cI cZ a0 yX12_areDays cX12_areDays 2 (some .boolean) 2 42 [.int (iz a), .int (iz b)] σ (some (.int (iz (xb (decide ((0 ≤ a ∧ a ≤ 199) ∧ (a ≤ b ∧ b ≤ 199))))))) (σ) := by
  refine mo_start (by decide) rfl (Nat.le_of_ble_eq_true rfl) ?_
  intro p e s m args below meth c C K hr hlk
  refine hv_iload_n C 0 0 dX12_areDays_0 rfl rfl ?_
  refine mo_callS [.int (iz a)] [] C K (k_isDay l σ a (by omega)) ck_isDay (by decide) rfl (Nat.le_of_ble_eq_true rfl) dX12_areDays_1 ?_
  refine hv_dif_eq C 22 dX12_areDays_4 (by decide)  (fun h4 => ?_) (fun h4 => ?_)
  · skip
    refine hv_iconst C dX12_areDays_22 ?_
    exact mo_zret (Qc := fun _ _ _ _ => True) C hr hlk ((xb_f (decide_eq_false (by omega))).symm) rfl dX12_areDays_23
  · skip
    refine hv_iload_n C 1 1 dX12_areDays_7 rfl rfl ?_
    refine hv_iload_n C 0 0 dX12_areDays_8 rfl rfl ?_
    refine hv_sipush C dX12_areDays_9 (by decide) ?_
    refine mo_callS [.int (iz b), .int (iz a), .int (iz 199)] [] C K (k_isIn l σ b a 199 (by omega) (by omega) (by omega)) ck_isIn (by decide) rfl (Nat.le_of_ble_eq_true rfl) dX12_areDays_12 ?_
    refine hv_dif_eq C 22 dX12_areDays_15 (by decide)  (fun h15 => ?_) (fun h15 => ?_)
    · skip
      refine hv_iconst C dX12_areDays_22 ?_
      exact mo_zret (Qc := fun _ _ _ _ => True) C hr hlk ((xb_f (decide_eq_false (by omega))).symm) rfl dX12_areDays_23
    · skip
      refine hv_iconst C dX12_areDays_18 ?_
      refine hv_goto C 23 dX12_areDays_19 (by decide) ?_
      exact mo_zret (Qc := fun _ _ _ _ => True) C hr hlk ((xb_t (decide_eq_true (by omega))).symm) rfl dX12_areDays_23
theorem dX12_call_0 : decode cX12_call 0 = .ok (.aload_n 0, 1) := by decide +kernel
theorem dX12_call_1 : decode cX12_call 1 = .ok (.iload_n 1, 1) := by decide +kernel
theorem dX12_call_2 : decode cX12_call 2 = .ok (.bipush 6, 2) := by decide +kernel
theorem dX12_call_4 : decode cX12_call 4 = .ok (.invokevirtual 63, 3) := by decide +kernel
theorem dX12_call_7 : decode cX12_call 7 = .ok (.ifCond .ne 5, 3) := by decide +kernel
theorem dX12_call_10 : decode cX12_call 10 = .ok (.iconst (-1), 1) := by decide +kernel
theorem dX12_call_11 : decode cX12_call 11 = .ok (.ireturn, 1) := by decide +kernel
theorem dX12_call_12 : decode cX12_call 12 = .ok (.sipush 630, 3) := by decide +kernel
theorem dX12_call_15 : decode cX12_call 15 = .ok (.iconst 3, 1) := by decide +kernel
theorem dX12_call_16 : decode cX12_call 16 = .ok (.iload_n 1, 1) := by decide +kernel
theorem dX12_call_17 : decode cX12_call 17 = .ok (.imul, 1) := by decide +kernel
theorem dX12_call_18 : decode cX12_call 18 = .ok (.iadd, 1) := by decide +kernel
theorem dX12_call_19 : decode cX12_call 19 = .ok (.istore_n 3, 1) := by decide +kernel
theorem dX12_call_20 : decode cX12_call 20 = .ok (.iload_n 2, 1) := by decide +kernel
theorem dX12_call_21 : decode cX12_call 21 = .ok (.iconst 0, 1) := by decide +kernel
theorem dX12_call_22 : decode cX12_call 22 = .ok (.iconst 2, 1) := by decide +kernel
theorem dX12_call_23 : decode cX12_call 23 = .ok (.invokestatic 59, 3) := by decide +kernel
theorem dX12_call_26 : decode cX12_call 26 = .ok (.ifCond .eq 14, 3) := by decide +kernel
theorem dX12_call_29 : decode cX12_call 29 = .ok (.aload_n 0, 1) := by decide +kernel
theorem dX12_call_30 : decode cX12_call 30 = .ok (.getfield 7, 3) := by decide +kernel
theorem dX12_call_33 : decode cX12_call 33 = .ok (.iload_n 3, 1) := by decide +kernel
theorem dX12_call_34 : decode cX12_call 34 = .ok (.iload_n 2, 1) := by decide +kernel
theorem dX12_call_35 : decode cX12_call 35 = .ok (.iadd, 1) := by decide +kernel
theorem dX12_call_36 : decode cX12_call 36 = .ok (.iaload, 1) := by decide +kernel
theorem dX12_call_37 : decode cX12_call 37 = .ok (.goto 33, 3) := by decide +kernel
theorem dX12_call_40 : decode cX12_call 40 = .ok (.iload_n 2, 1) := by decide +kernel
theorem dX12_call_41 : decode cX12_call 41 = .ok (.iconst 3, 1) := by decide +kernel
theorem dX12_call_42 : decode cX12_call 42 = .ok (.if_icmp .ne 27, 3) := by decide +kernel
theorem dX12_call_45 : decode cX12_call 45 = .ok (.sipush 1000, 3) := by decide +kernel
theorem dX12_call_48 : decode cX12_call 48 = .ok (.aload_n 0, 1) := by decide +kernel
theorem dX12_call_49 : decode cX12_call 49 = .ok (.getfield 7, 3) := by decide +kernel
theorem dX12_call_52 : decode cX12_call 52 = .ok (.iload_n 3, 1) := by decide +kernel
theorem dX12_call_53 : decode cX12_call 53 = .ok (.iconst 2, 1) := by decide +kernel
theorem dX12_call_54 : decode cX12_call 54 = .ok (.iadd, 1) := by decide +kernel
theorem dX12_call_55 : decode cX12_call 55 = .ok (.iaload, 1) := by decide +kernel
theorem dX12_call_56 : decode cX12_call 56 = .ok (.imul, 1) := by decide +kernel
theorem dX12_call_57 : decode cX12_call 57 = .ok (.aload_n 0, 1) := by decide +kernel
theorem dX12_call_58 : decode cX12_call 58 = .ok (.getfield 7, 3) := by decide +kernel
theorem dX12_call_61 : decode cX12_call 61 = .ok (.iload_n 3, 1) := by decide +kernel
theorem dX12_call_62 : decode cX12_call 62 = .ok (.iconst 1, 1) := by decide +kernel
theorem dX12_call_63 : decode cX12_call 63 = .ok (.iadd, 1) := by decide +kernel
theorem dX12_call_64 : decode cX12_call 64 = .ok (.iaload, 1) := by decide +kernel
theorem dX12_call_65 : decode cX12_call 65 = .ok (.idiv, 1) := by decide +kernel
theorem dX12_call_66 : decode cX12_call 66 = .ok (.goto 4, 3) := by decide +kernel
theorem dX12_call_69 : decode cX12_call 69 = .ok (.iconst (-1), 1) := by decide +kernel
theorem dX12_call_70 : decode cX12_call 70 = .ok (.ireturn, 1) := by decide +kernel
set_option maxRecDepth 100000 in
set_option maxHeartbeats 4000000 in
theorem k_call (l : Launch) {D : va_G} {cI cZ : ClassId} {a0 : Nat} (σ : Nat → Nat → Int) (k : Int) (what : Int) (hσ : rg σ) (hc : cn (σ 1)) (hci : ci (σ 1)) (r_k : inI k) (r_what : inI what) : moM l D cI cZ a0 yX12_call cX12_call 4 (some .int) 2 44 [.ref a0, .int (iz k), .int (iz what)] σ (some (.int (iz (if ¬ (0 ≤ k ∧ k ≤ σ 1 6 - 1) then -1 else if 0 ≤ what ∧ what ≤ 2 then σ 1 (630 + 3 * k.toNat + what.toNat) else if what = 3 then 1000 * σ 1 (630 + 3 * k.toNat + 2) / σ 1 (630 + 3 * k.toNat + 1) else -1)))) (σ) := by
  refine mo_start (by decide) rfl (Nat.le_of_ble_eq_true rfl) ?_
  intro p e s m args below meth c C K hr hlk
  refine hv_aload_n C 0 0 dX12_call_0 rfl rfl ?_
  refine hv_iload_n C 1 1 dX12_call_1 rfl rfl ?_
  refine hv_bipush C dX12_call_2 (by decide) ?_
  refine mo_call [.int (iz k), .int (iz 6)] [] C K (k_isOf l σ k 6 hσ (by omega) (by omega) (by omega)) ck_isOf (by decide) rfl (Nat.le_of_ble_eq_true rfl) dX12_call_4 ?_
  refine hv_dif_ne C 12 dX12_call_7 (by decide)  (fun h7 => ?_) (fun h7 => ?_)
  · skip
    obtain ⟨kn, rfl⟩ : ∃ n : Nat, k = (n : Int) := ⟨(k).toNat, by omega⟩
    have hkn := hci kn (by omega)
    refine hv_sipush C dX12_call_12 (by decide) ?_
    refine hv_iconst C dX12_call_15 ?_
    refine hv_iload_n C 1 1 dX12_call_16 rfl rfl ?_
    refine hv_imul C dX12_call_17 ?_
    refine hv_iadd C dX12_call_18 ?_
    refine hv_istore_n C 3 [(3, .int (iz (630 + (3 * ((kn : Nat) : Int))))), (0, .ref a0), (1, .int (iz ((kn : Nat) : Int))), (2, .int (iz what))] dX12_call_19 rfl (by decide) rfl ?_
    refine hv_iload_n C 2 3 dX12_call_20 rfl rfl ?_
    refine hv_iconst C dX12_call_21 ?_
    refine hv_iconst C dX12_call_22 ?_
    refine mo_callS [.int (iz what), .int (iz 0), .int (iz 2)] [] C K (k_isIn l σ what 0 2 (by omega) (by omega) (by omega)) ck_isIn (by decide) rfl (Nat.le_of_ble_eq_true rfl) dX12_call_23 ?_
    refine hv_dif_eq C 40 dX12_call_26 (by decide)  (fun h26 => ?_) (fun h26 => ?_)
    · skip
      refine hv_iload_n C 2 3 dX12_call_40 rfl rfl ?_
      refine hv_iconst C dX12_call_41 ?_
      refine hv_icmp_ne C 69 dX12_call_42 (by decide) (by omega) (by omega) (fun h42 => ?_) (fun h42 => ?_)
      · skip
        refine hv_iconst C dX12_call_69 ?_
        exact mo_iret (Qc := fun _ _ _ _ => True) C hr hlk (by first | exact if_p (by omega) rfl | (refine if_n (by omega) ?_; first | (refine if_p (by omega) ?_; subst_vars; simp; done) | (refine if_n (by omega) ?_; first | exact if_n (by omega) rfl | (refine if_p (by omega) ?_; subst_vars; simp; done)))) rfl dX12_call_70
      · skip
        refine hv_sipush C dX12_call_45 (by decide) ?_
        refine hv_aload_n C 0 1 dX12_call_48 rfl rfl ?_
        refine mo_geta C K 0 1 (by decide) rfl mo_hw fl_7 rfl dX12_call_49 ?_
        refine hv_iload_n C 3 0 dX12_call_52 rfl rfl ?_
        refine hv_iconst C dX12_call_53 ?_
        refine hv_iadd C dX12_call_54 ?_
        refine mo_iald C K 1 9040 ((630 + (3 * kn)) + 2) rfl (by omega) (by omega) (by decide) dX12_call_55 ?_
        refine hv_nm (fun x1 ex1 => ?_)
        have rx1 : inI x1 := by rw [ex1]; exact hσ 1 ((630 + (3 * kn)) + 2)
        refine hv_imul C dX12_call_56 ?_
        refine hv_aload_n C 0 1 dX12_call_57 rfl rfl ?_
        refine mo_geta C K 0 1 (by decide) rfl mo_hw fl_7 rfl dX12_call_58 ?_
        refine hv_iload_n C 3 0 dX12_call_61 rfl rfl ?_
        refine hv_iconst C dX12_call_62 ?_
        refine hv_iadd C dX12_call_63 ?_
        refine mo_iald C K 1 9040 ((630 + (3 * kn)) + 1) rfl (by omega) (by omega) (by decide) dX12_call_64 ?_
        refine hv_nm (fun x2 ex2 => ?_)
        have rx2 : inI x2 := by rw [ex2]; exact hσ 1 ((630 + (3 * kn)) + 1)
        refine hv_idiv C (by omega) (by omega) (by omega) (by omega) dX12_call_65 ?_
        refine hv_goto C 70 dX12_call_66 (by decide) ?_
        exact mo_iret (Qc := fun _ _ _ _ => True) C hr hlk (by first | exact if_p (by omega) rfl | (refine if_n (by omega) ?_; first | (refine if_p (by omega) ?_; subst_vars; simp; done) | (refine if_n (by omega) ?_; first | exact if_n (by omega) rfl | (refine if_p (by omega) ?_; subst_vars; simp; done)))) rfl dX12_call_70
    · skip
      obtain ⟨wn, rfl⟩ : ∃ n : Nat, what = (n : Int) := ⟨(what).toNat, by omega⟩
      refine hv_aload_n C 0 1 dX12_call_29 rfl rfl ?_
      refine mo_geta C K 0 1 (by decide) rfl mo_hw fl_7 rfl dX12_call_30 ?_
      refine hv_iload_n C 3 0 dX12_call_33 rfl rfl ?_
      refine hv_iload_n C 2 3 dX12_call_34 rfl rfl ?_
      refine hv_iadd C dX12_call_35 ?_
      refine mo_iald C K 1 9040 ((630 + (3 * kn)) + wn) rfl (by omega) (by omega) (by decide) dX12_call_36 ?_
      refine hv_nm (fun x3 ex3 => ?_)
      have rx3 : inI x3 := by rw [ex3]; exact hσ 1 ((630 + (3 * kn)) + wn)
      refine hv_goto C 70 dX12_call_37 (by decide) ?_
      exact mo_iret (Qc := fun _ _ _ _ => True) C hr hlk (by first | exact if_p (by omega) rfl | (refine if_n (by omega) ?_; first | (refine if_p (by omega) ?_; subst_vars; simp; done) | (refine if_n (by omega) ?_; first | exact if_n (by omega) rfl | (refine if_p (by omega) ?_; subst_vars; simp; done)))) rfl dX12_call_70
  · skip
    refine hv_iconst C dX12_call_10 ?_
    exact mo_iret (Qc := fun _ _ _ _ => True) C hr hlk (by first | exact if_p (by omega) rfl | (refine if_n (by omega) ?_; first | (refine if_p (by omega) ?_; subst_vars; simp; done) | (refine if_n (by omega) ?_; first | exact if_n (by omega) rfl | (refine if_p (by omega) ?_; subst_vars; simp; done)))) rfl dX12_call_11
theorem dX12_count_0 : decode cX12_count 0 = .ok (.iload_n 1, 1) := by decide +kernel
theorem dX12_count_1 : decode cX12_count 1 = .ok (.tableswitch 99 0 13 #[71, 71, 71, 71, 71, 71, 71, 71, 71, 71, 78, 78, 78, 91], 71) := by decide +kernel
theorem dX12_count_72 : decode cX12_count 72 = .ok (.aload_n 0, 1) := by decide +kernel
theorem dX12_count_73 : decode cX12_count 73 = .ok (.getfield 7, 3) := by decide +kernel
theorem dX12_count_76 : decode cX12_count 76 = .ok (.iload_n 1, 1) := by decide +kernel
theorem dX12_count_77 : decode cX12_count 77 = .ok (.iaload, 1) := by decide +kernel
theorem dX12_count_78 : decode cX12_count 78 = .ok (.ireturn, 1) := by decide +kernel
theorem dX12_count_79 : decode cX12_count 79 = .ok (.aload_n 0, 1) := by decide +kernel
theorem dX12_count_80 : decode cX12_count 80 = .ok (.getfield 7, 3) := by decide +kernel
theorem dX12_count_83 : decode cX12_count 83 = .ok (.bipush 14, 2) := by decide +kernel
theorem dX12_count_85 : decode cX12_count 85 = .ok (.iload_n 1, 1) := by decide +kernel
theorem dX12_count_86 : decode cX12_count 86 = .ok (.iadd, 1) := by decide +kernel
theorem dX12_count_87 : decode cX12_count 87 = .ok (.bipush 10, 2) := by decide +kernel
theorem dX12_count_89 : decode cX12_count 89 = .ok (.isub, 1) := by decide +kernel
theorem dX12_count_90 : decode cX12_count 90 = .ok (.iaload, 1) := by decide +kernel
theorem dX12_count_91 : decode cX12_count 91 = .ok (.ireturn, 1) := by decide +kernel
theorem dX12_count_92 : decode cX12_count 92 = .ok (.aload_n 0, 1) := by decide +kernel
theorem dX12_count_93 : decode cX12_count 93 = .ok (.getfield 7, 3) := by decide +kernel
theorem dX12_count_96 : decode cX12_count 96 = .ok (.bipush 13, 2) := by decide +kernel
theorem dX12_count_98 : decode cX12_count 98 = .ok (.iaload, 1) := by decide +kernel
theorem dX12_count_99 : decode cX12_count 99 = .ok (.ireturn, 1) := by decide +kernel
theorem dX12_count_100 : decode cX12_count 100 = .ok (.bipush (-2), 2) := by decide +kernel
theorem dX12_count_102 : decode cX12_count 102 = .ok (.ireturn, 1) := by decide +kernel
set_option maxRecDepth 100000 in
set_option maxHeartbeats 4000000 in
theorem k_count (l : Launch) {D : va_G} {cI cZ : ClassId} {a0 : Nat} (σ : Nat → Nat → Int) (what : Int) (hσ : rg σ) (r_what : inI what) : moM l D cI cZ a0 yX12_count cX12_count 2 (some .int) 0 0 [.ref a0, .int (iz what)] σ (some (.int (iz (if 0 ≤ what ∧ what ≤ 9 then σ 1 what.toNat else if 10 ≤ what ∧ what ≤ 12 then σ 1 (14 + (what - 10).toNat) else if what = 13 then σ 1 13 else -2)))) (σ) := by
  refine mo_start (by decide) rfl (Nat.le_of_ble_eq_true rfl) ?_
  intro p e s m args below meth c C K hr hlk
  refine hv_iload_n C 1 1 dX12_count_0 rfl rfl ?_
  rcases (by omega : what = 0 ∨ what = 1 ∨ what = 2 ∨ what = 3 ∨ what = 4 ∨ what = 5 ∨ what = 6 ∨ what = 7 ∨ what = 8 ∨ what = 9 ∨ what = 10 ∨ what = 11 ∨ what = 12 ∨ what = 13 ∨ (what < 0 ∨ 13 < what)) with q | q | q | q | q | q | q | q | q | q | q | q | q | q | q
  · subst q
    refine hv_tableIn C 72 ⟨by decide, by decide⟩ dX12_count_1 (by decide) (by decide) rfl (by decide) ?_
    refine hv_aload_n C 0 0 dX12_count_72 rfl rfl ?_
    refine mo_geta C K 0 1 (by decide) rfl mo_hw fl_7 rfl dX12_count_73 ?_
    refine hv_iload_n C 1 1 dX12_count_76 rfl rfl ?_
    refine mo_iald C K 1 9040 0 rfl (by omega) (by omega) (by decide) dX12_count_77 ?_
    refine hv_nm (fun x1 ex1 => ?_)
    have rx1 : inI x1 := by rw [ex1]; exact hσ 1 0
    exact mo_iret (Qc := fun _ _ _ _ => True) C hr hlk (by subst_vars; first | rfl | (rw [if_neg (by omega), if_neg (by omega), if_neg (by omega)])) rfl dX12_count_78
  · subst q
    refine hv_tableIn C 72 ⟨by decide, by decide⟩ dX12_count_1 (by decide) (by decide) rfl (by decide) ?_
    refine hv_aload_n C 0 0 dX12_count_72 rfl rfl ?_
    refine mo_geta C K 0 1 (by decide) rfl mo_hw fl_7 rfl dX12_count_73 ?_
    refine hv_iload_n C 1 1 dX12_count_76 rfl rfl ?_
    refine mo_iald C K 1 9040 1 rfl (by omega) (by omega) (by decide) dX12_count_77 ?_
    refine hv_nm (fun x2 ex2 => ?_)
    have rx2 : inI x2 := by rw [ex2]; exact hσ 1 1
    exact mo_iret (Qc := fun _ _ _ _ => True) C hr hlk (by subst_vars; first | rfl | (rw [if_neg (by omega), if_neg (by omega), if_neg (by omega)])) rfl dX12_count_78
  · subst q
    refine hv_tableIn C 72 ⟨by decide, by decide⟩ dX12_count_1 (by decide) (by decide) rfl (by decide) ?_
    refine hv_aload_n C 0 0 dX12_count_72 rfl rfl ?_
    refine mo_geta C K 0 1 (by decide) rfl mo_hw fl_7 rfl dX12_count_73 ?_
    refine hv_iload_n C 1 1 dX12_count_76 rfl rfl ?_
    refine mo_iald C K 1 9040 2 rfl (by omega) (by omega) (by decide) dX12_count_77 ?_
    refine hv_nm (fun x3 ex3 => ?_)
    have rx3 : inI x3 := by rw [ex3]; exact hσ 1 2
    exact mo_iret (Qc := fun _ _ _ _ => True) C hr hlk (by subst_vars; first | rfl | (rw [if_neg (by omega), if_neg (by omega), if_neg (by omega)])) rfl dX12_count_78
  · subst q
    refine hv_tableIn C 72 ⟨by decide, by decide⟩ dX12_count_1 (by decide) (by decide) rfl (by decide) ?_
    refine hv_aload_n C 0 0 dX12_count_72 rfl rfl ?_
    refine mo_geta C K 0 1 (by decide) rfl mo_hw fl_7 rfl dX12_count_73 ?_
    refine hv_iload_n C 1 1 dX12_count_76 rfl rfl ?_
    refine mo_iald C K 1 9040 3 rfl (by omega) (by omega) (by decide) dX12_count_77 ?_
    refine hv_nm (fun x4 ex4 => ?_)
    have rx4 : inI x4 := by rw [ex4]; exact hσ 1 3
    exact mo_iret (Qc := fun _ _ _ _ => True) C hr hlk (by subst_vars; first | rfl | (rw [if_neg (by omega), if_neg (by omega), if_neg (by omega)])) rfl dX12_count_78
  · subst q
    refine hv_tableIn C 72 ⟨by decide, by decide⟩ dX12_count_1 (by decide) (by decide) rfl (by decide) ?_
    refine hv_aload_n C 0 0 dX12_count_72 rfl rfl ?_
    refine mo_geta C K 0 1 (by decide) rfl mo_hw fl_7 rfl dX12_count_73 ?_
    refine hv_iload_n C 1 1 dX12_count_76 rfl rfl ?_
    refine mo_iald C K 1 9040 4 rfl (by omega) (by omega) (by decide) dX12_count_77 ?_
    refine hv_nm (fun x5 ex5 => ?_)
    have rx5 : inI x5 := by rw [ex5]; exact hσ 1 4
    exact mo_iret (Qc := fun _ _ _ _ => True) C hr hlk (by subst_vars; first | rfl | (rw [if_neg (by omega), if_neg (by omega), if_neg (by omega)])) rfl dX12_count_78
  · subst q
    refine hv_tableIn C 72 ⟨by decide, by decide⟩ dX12_count_1 (by decide) (by decide) rfl (by decide) ?_
    refine hv_aload_n C 0 0 dX12_count_72 rfl rfl ?_
    refine mo_geta C K 0 1 (by decide) rfl mo_hw fl_7 rfl dX12_count_73 ?_
    refine hv_iload_n C 1 1 dX12_count_76 rfl rfl ?_
    refine mo_iald C K 1 9040 5 rfl (by omega) (by omega) (by decide) dX12_count_77 ?_
    refine hv_nm (fun x6 ex6 => ?_)
    have rx6 : inI x6 := by rw [ex6]; exact hσ 1 5
    exact mo_iret (Qc := fun _ _ _ _ => True) C hr hlk (by subst_vars; first | rfl | (rw [if_neg (by omega), if_neg (by omega), if_neg (by omega)])) rfl dX12_count_78
  · subst q
    refine hv_tableIn C 72 ⟨by decide, by decide⟩ dX12_count_1 (by decide) (by decide) rfl (by decide) ?_
    refine hv_aload_n C 0 0 dX12_count_72 rfl rfl ?_
    refine mo_geta C K 0 1 (by decide) rfl mo_hw fl_7 rfl dX12_count_73 ?_
    refine hv_iload_n C 1 1 dX12_count_76 rfl rfl ?_
    refine mo_iald C K 1 9040 6 rfl (by omega) (by omega) (by decide) dX12_count_77 ?_
    refine hv_nm (fun x7 ex7 => ?_)
    have rx7 : inI x7 := by rw [ex7]; exact hσ 1 6
    exact mo_iret (Qc := fun _ _ _ _ => True) C hr hlk (by subst_vars; first | rfl | (rw [if_neg (by omega), if_neg (by omega), if_neg (by omega)])) rfl dX12_count_78
  · subst q
    refine hv_tableIn C 72 ⟨by decide, by decide⟩ dX12_count_1 (by decide) (by decide) rfl (by decide) ?_
    refine hv_aload_n C 0 0 dX12_count_72 rfl rfl ?_
    refine mo_geta C K 0 1 (by decide) rfl mo_hw fl_7 rfl dX12_count_73 ?_
    refine hv_iload_n C 1 1 dX12_count_76 rfl rfl ?_
    refine mo_iald C K 1 9040 7 rfl (by omega) (by omega) (by decide) dX12_count_77 ?_
    refine hv_nm (fun x8 ex8 => ?_)
    have rx8 : inI x8 := by rw [ex8]; exact hσ 1 7
    exact mo_iret (Qc := fun _ _ _ _ => True) C hr hlk (by subst_vars; first | rfl | (rw [if_neg (by omega), if_neg (by omega), if_neg (by omega)])) rfl dX12_count_78
  · subst q
    refine hv_tableIn C 72 ⟨by decide, by decide⟩ dX12_count_1 (by decide) (by decide) rfl (by decide) ?_
    refine hv_aload_n C 0 0 dX12_count_72 rfl rfl ?_
    refine mo_geta C K 0 1 (by decide) rfl mo_hw fl_7 rfl dX12_count_73 ?_
    refine hv_iload_n C 1 1 dX12_count_76 rfl rfl ?_
    refine mo_iald C K 1 9040 8 rfl (by omega) (by omega) (by decide) dX12_count_77 ?_
    refine hv_nm (fun x9 ex9 => ?_)
    have rx9 : inI x9 := by rw [ex9]; exact hσ 1 8
    exact mo_iret (Qc := fun _ _ _ _ => True) C hr hlk (by subst_vars; first | rfl | (rw [if_neg (by omega), if_neg (by omega), if_neg (by omega)])) rfl dX12_count_78
  · subst q
    refine hv_tableIn C 72 ⟨by decide, by decide⟩ dX12_count_1 (by decide) (by decide) rfl (by decide) ?_
    refine hv_aload_n C 0 0 dX12_count_72 rfl rfl ?_
    refine mo_geta C K 0 1 (by decide) rfl mo_hw fl_7 rfl dX12_count_73 ?_
    refine hv_iload_n C 1 1 dX12_count_76 rfl rfl ?_
    refine mo_iald C K 1 9040 9 rfl (by omega) (by omega) (by decide) dX12_count_77 ?_
    refine hv_nm (fun x10 ex10 => ?_)
    have rx10 : inI x10 := by rw [ex10]; exact hσ 1 9
    exact mo_iret (Qc := fun _ _ _ _ => True) C hr hlk (by subst_vars; first | rfl | (rw [if_neg (by omega), if_neg (by omega), if_neg (by omega)])) rfl dX12_count_78
  · subst q
    refine hv_tableIn C 79 ⟨by decide, by decide⟩ dX12_count_1 (by decide) (by decide) rfl (by decide) ?_
    refine hv_aload_n C 0 0 dX12_count_79 rfl rfl ?_
    refine mo_geta C K 0 1 (by decide) rfl mo_hw fl_7 rfl dX12_count_80 ?_
    refine hv_bipush C dX12_count_83 (by decide) ?_
    refine hv_iload_n C 1 1 dX12_count_85 rfl rfl ?_
    refine hv_iadd C dX12_count_86 ?_
    refine hv_bipush C dX12_count_87 (by decide) ?_
    refine hv_isub C dX12_count_89 ?_
    refine mo_iald C K 1 9040 ((((14 + 10) - 10) : Int)).toNat rfl (by omega) (by omega) (by decide) dX12_count_90 ?_
    refine hv_nm (fun x11 ex11 => ?_)
    have rx11 : inI x11 := by rw [ex11]; exact hσ 1 ((((14 + 10) - 10) : Int)).toNat
    exact mo_iret (Qc := fun _ _ _ _ => True) C hr hlk (by subst_vars; first | rfl | (rw [if_neg (by omega), if_neg (by omega), if_neg (by omega)])) rfl dX12_count_91
  · subst q
    refine hv_tableIn C 79 ⟨by decide, by decide⟩ dX12_count_1 (by decide) (by decide) rfl (by decide) ?_
    refine hv_aload_n C 0 0 dX12_count_79 rfl rfl ?_
    refine mo_geta C K 0 1 (by decide) rfl mo_hw fl_7 rfl dX12_count_80 ?_
    refine hv_bipush C dX12_count_83 (by decide) ?_
    refine hv_iload_n C 1 1 dX12_count_85 rfl rfl ?_
    refine hv_iadd C dX12_count_86 ?_
    refine hv_bipush C dX12_count_87 (by decide) ?_
    refine hv_isub C dX12_count_89 ?_
    refine mo_iald C K 1 9040 ((((14 + 11) - 10) : Int)).toNat rfl (by omega) (by omega) (by decide) dX12_count_90 ?_
    refine hv_nm (fun x12 ex12 => ?_)
    have rx12 : inI x12 := by rw [ex12]; exact hσ 1 ((((14 + 11) - 10) : Int)).toNat
    exact mo_iret (Qc := fun _ _ _ _ => True) C hr hlk (by subst_vars; first | rfl | (rw [if_neg (by omega), if_neg (by omega), if_neg (by omega)])) rfl dX12_count_91
  · subst q
    refine hv_tableIn C 79 ⟨by decide, by decide⟩ dX12_count_1 (by decide) (by decide) rfl (by decide) ?_
    refine hv_aload_n C 0 0 dX12_count_79 rfl rfl ?_
    refine mo_geta C K 0 1 (by decide) rfl mo_hw fl_7 rfl dX12_count_80 ?_
    refine hv_bipush C dX12_count_83 (by decide) ?_
    refine hv_iload_n C 1 1 dX12_count_85 rfl rfl ?_
    refine hv_iadd C dX12_count_86 ?_
    refine hv_bipush C dX12_count_87 (by decide) ?_
    refine hv_isub C dX12_count_89 ?_
    refine mo_iald C K 1 9040 ((((14 + 12) - 10) : Int)).toNat rfl (by omega) (by omega) (by decide) dX12_count_90 ?_
    refine hv_nm (fun x13 ex13 => ?_)
    have rx13 : inI x13 := by rw [ex13]; exact hσ 1 ((((14 + 12) - 10) : Int)).toNat
    exact mo_iret (Qc := fun _ _ _ _ => True) C hr hlk (by subst_vars; first | rfl | (rw [if_neg (by omega), if_neg (by omega), if_neg (by omega)])) rfl dX12_count_91
  · subst q
    refine hv_tableIn C 92 ⟨by decide, by decide⟩ dX12_count_1 (by decide) (by decide) rfl (by decide) ?_
    refine hv_aload_n C 0 0 dX12_count_92 rfl rfl ?_
    refine mo_geta C K 0 1 (by decide) rfl mo_hw fl_7 rfl dX12_count_93 ?_
    refine hv_bipush C dX12_count_96 (by decide) ?_
    refine mo_iald C K 1 9040 13 rfl (by omega) (by omega) (by decide) dX12_count_98 ?_
    refine hv_nm (fun x14 ex14 => ?_)
    have rx14 : inI x14 := by rw [ex14]; exact hσ 1 13
    exact mo_iret (Qc := fun _ _ _ _ => True) C hr hlk (by subst_vars; first | rfl | (rw [if_neg (by omega), if_neg (by omega), if_neg (by omega)])) rfl dX12_count_99
  · skip
    refine hv_tableOut C 100 (by omega) dX12_count_1 q (by decide) ?_
    refine hv_bipush C dX12_count_100 (by decide) ?_
    exact mo_iret (Qc := fun _ _ _ _ => True) C hr hlk (by subst_vars; first | rfl | (rw [if_neg (by omega), if_neg (by omega), if_neg (by omega)])) rfl dX12_count_102
theorem dX12_swap_0 : decode cX12_swap 0 = .ok (.aload_n 0, 1) := by decide +kernel
theorem dX12_swap_1 : decode cX12_swap 1 = .ok (.getfield 41, 3) := by decide +kernel
theorem dX12_swap_4 : decode cX12_swap 4 = .ok (.iload_n 1, 1) := by decide +kernel
theorem dX12_swap_5 : decode cX12_swap 5 = .ok (.iaload, 1) := by decide +kernel
theorem dX12_swap_6 : decode cX12_swap 6 = .ok (.istore_n 3, 1) := by decide +kernel
theorem dX12_swap_7 : decode cX12_swap 7 = .ok (.aload_n 0, 1) := by decide +kernel
theorem dX12_swap_8 : decode cX12_swap 8 = .ok (.getfield 41, 3) := by decide +kernel
theorem dX12_swap_11 : decode cX12_swap 11 = .ok (.iload_n 1, 1) := by decide +kernel
theorem dX12_swap_12 : decode cX12_swap 12 = .ok (.aload_n 0, 1) := by decide +kernel
theorem dX12_swap_13 : decode cX12_swap 13 = .ok (.getfield 41, 3) := by decide +kernel
theorem dX12_swap_16 : decode cX12_swap 16 = .ok (.iload_n 2, 1) := by decide +kernel
theorem dX12_swap_17 : decode cX12_swap 17 = .ok (.iaload, 1) := by decide +kernel
theorem dX12_swap_18 : decode cX12_swap 18 = .ok (.iastore, 1) := by decide +kernel
theorem dX12_swap_19 : decode cX12_swap 19 = .ok (.aload_n 0, 1) := by decide +kernel
theorem dX12_swap_20 : decode cX12_swap 20 = .ok (.getfield 41, 3) := by decide +kernel
theorem dX12_swap_23 : decode cX12_swap 23 = .ok (.iload_n 2, 1) := by decide +kernel
theorem dX12_swap_24 : decode cX12_swap 24 = .ok (.iload_n 3, 1) := by decide +kernel
theorem dX12_swap_25 : decode cX12_swap 25 = .ok (.iastore, 1) := by decide +kernel
theorem dX12_swap_26 : decode cX12_swap 26 = .ok (.return_, 1) := by decide +kernel
set_option maxRecDepth 100000 in
set_option maxHeartbeats 4000000 in
theorem k_swap (l : Launch) {D : va_G} {cI cZ : ClassId} {a0 : Nat} (σ : Nat → Nat → Int) (a : Nat) (b : Nat) (hσ : rg σ) (ha : a < 7) (hb : b < 7) : moM l D cI cZ a0 yX12_swap cX12_swap 4 none 0 0 [.ref a0, .int (iz ((a : Nat) : Int)), .int (iz ((b : Nat) : Int))] σ none (u2 (u2 σ 11 a (σ 11 b)) 11 b (σ 11 a)) := by
  refine mo_start (by decide) rfl (Nat.le_of_ble_eq_true rfl) ?_
  intro p e s m args below meth c C K hr hlk
  refine hv_aload_n C 0 0 dX12_swap_0 rfl rfl ?_
  refine mo_geta C K 21 11 (by decide) rfl mo_hw fl_41 rfl dX12_swap_1 ?_
  refine hv_iload_n C 1 1 dX12_swap_4 rfl rfl ?_
  refine mo_iald C K 11 7 a rfl (by omega) (by omega) (by decide) dX12_swap_5 ?_
  refine hv_nm (fun x1 ex1 => ?_)
  have rx1 : inI x1 := by rw [ex1]; exact hσ 11 a
  refine hv_istore_n C 3 [(3, .int (iz x1)), (0, .ref a0), (1, .int (iz ((a : Nat) : Int))), (2, .int (iz ((b : Nat) : Int)))] dX12_swap_6 rfl (by decide) rfl ?_
  refine hv_aload_n C 0 1 dX12_swap_7 rfl rfl ?_
  refine mo_geta C K 21 11 (by decide) rfl mo_hw fl_41 rfl dX12_swap_8 ?_
  refine hv_iload_n C 1 2 dX12_swap_11 rfl rfl ?_
  refine hv_aload_n C 0 1 dX12_swap_12 rfl rfl ?_
  refine mo_geta C K 21 11 (by decide) rfl mo_hw fl_41 rfl dX12_swap_13 ?_
  refine hv_iload_n C 2 3 dX12_swap_16 rfl rfl ?_
  refine mo_iald C K 11 7 b rfl (by omega) (by omega) (by decide) dX12_swap_17 ?_
  refine hv_nm (fun x2 ex2 => ?_)
  have rx2 : inI x2 := by rw [ex2]; exact hσ 11 b
  refine mo_iast C K 11 7 a rfl (moW_set11 _ _ _ _ _ _) (by omega) (by omega) (by decide) dX12_swap_18 ?_
  refine hv_aload_n C 0 1 dX12_swap_19 rfl rfl ?_
  refine mo_geta C K 21 11 (by decide) rfl mo_hw fl_41 rfl dX12_swap_20 ?_
  refine hv_iload_n C 2 3 dX12_swap_23 rfl rfl ?_
  refine hv_iload_n C 3 0 dX12_swap_24 rfl rfl ?_
  refine mo_iast C K 11 7 b rfl (moW_set11 _ _ _ _ _ _) (by omega) (by omega) (by decide) dX12_swap_25 ?_
  exact mo_vret (Qc := fun _ _ _ _ => True) C hr hlk (by subst_vars; rfl) dX12_swap_26
