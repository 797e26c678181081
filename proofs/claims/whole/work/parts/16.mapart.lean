theorem mulb {a b A B : Int} (ha : 0 ≤ a ∧ a ≤ A) (hb : 0 ≤ b ∧ b ≤ B) : 0 ≤ a * b ∧ a * b ≤ A * B := ⟨Int.mul_nonneg ha.1 hb.1, Int.mul_le_mul ha.2 hb.2 hb.1 (by omega)⟩
theorem sqb {d D : Int} (h : -D ≤ d ∧ d ≤ D) : 0 ≤ d * d ∧ d * d ≤ D * D := by
  rcases Int.le_total 0 d with q | q
  · exact mulb ⟨q, h.2⟩ ⟨q, h.2⟩
  · have := mulb (a := -d) (b := -d) (A := D) (B := D) ⟨by omega, by omega⟩ ⟨by omega, by omega⟩
    rwa [Int.neg_mul_neg] at this
theorem ap_x {n k m l : Int} (hn : 1 ≤ n ∧ n ≤ 999) (hk : 0 ≤ k ∧ k ≤ n) (hm : 1 ≤ m ∧ m ≤ 999) (hl : 0 ≤ l ∧ l ≤ m) : inL ((k * m - l * n) * (k * m - l * n) * (n + m)) := by
  have h1 := mulb (a := k) (b := m) (A := 999) (B := 999) (by omega) (by omega)
  have h2 := mulb (a := l) (b := n) (A := 999) (B := 999) (by omega) (by omega)
  have h3 := sqb (d := k * m - l * n) (D := 998001) (by omega)
  have h4 := mulb (a := (k * m - l * n) * (k * m - l * n)) (b := n + m) (A := 998001 * 998001) (B := 1998) h3 (by omega)
  omega
theorem ap_y {n k m l : Int} (hn : 1 ≤ n ∧ n ≤ 999) (hk : 0 ≤ k ∧ k ≤ n) (hm : 1 ≤ m ∧ m ≤ 999) (hl : 0 ≤ l ∧ l ≤ m) : inL (4 * (k + l) * (n + m - k - l) * n * m) := by
  have h1 := mulb (a := 4 * (k + l)) (b := n + m - k - l) (A := 7992) (B := 1998) (by omega) (by omega)
  have h2 := mulb (a := 4 * (k + l) * (n + m - k - l)) (b := n) (A := 7992 * 1998) (B := 999) h1 (by omega)
  have h3 := mulb (a := 4 * (k + l) * (n + m - k - l) * n) (b := m) (A := 7992 * 1998 * 999) (B := 999) h2 (by omega)
  omega
def apx (A : Nat → Int) (a b : Nat) : Bool := decide (4 * (A (630 + 3 * a + 2) + A (630 + 3 * b + 2)) * (A (630 + 3 * a + 1) + A (630 + 3 * b + 1) - A (630 + 3 * a + 2) - A (630 + 3 * b + 2)) * A (630 + 3 * a + 1) * A (630 + 3 * b + 1) < (A (630 + 3 * a + 2) * A (630 + 3 * b + 1) - A (630 + 3 * b + 2) * A (630 + 3 * a + 1)) * (A (630 + 3 * a + 2) * A (630 + 3 * b + 1) - A (630 + 3 * b + 2) * A (630 + 3 * a + 1)) * (A (630 + 3 * a + 1) + A (630 + 3 * b + 1)))

theorem dX12_apart_0 : decode cX12_apart 0 = .ok (.aload_n 0, 1) := by decide +kernel
theorem dX12_apart_1 : decode cX12_apart 1 = .ok (.iload_n 1, 1) := by decide +kernel
theorem dX12_apart_2 : decode cX12_apart 2 = .ok (.bipush 6, 2) := by decide +kernel
theorem dX12_apart_4 : decode cX12_apart 4 = .ok (.invokevirtual 63, 3) := by decide +kernel
theorem dX12_apart_7 : decode cX12_apart 7 = .ok (.ifCond .eq 13, 3) := by decide +kernel
theorem dX12_apart_10 : decode cX12_apart 10 = .ok (.aload_n 0, 1) := by decide +kernel
theorem dX12_apart_11 : decode cX12_apart 11 = .ok (.iload_n 2, 1) := by decide +kernel
theorem dX12_apart_12 : decode cX12_apart 12 = .ok (.bipush 6, 2) := by decide +kernel
theorem dX12_apart_14 : decode cX12_apart 14 = .ok (.invokevirtual 63, 3) := by decide +kernel
theorem dX12_apart_17 : decode cX12_apart 17 = .ok (.ifCond .ne 5, 3) := by decide +kernel
theorem dX12_apart_20 : decode cX12_apart 20 = .ok (.iconst 0, 1) := by decide +kernel
theorem dX12_apart_21 : decode cX12_apart 21 = .ok (.ireturn, 1) := by decide +kernel
theorem dX12_apart_22 : decode cX12_apart 22 = .ok (.aload_n 0, 1) := by decide +kernel
theorem dX12_apart_23 : decode cX12_apart 23 = .ok (.getfield 7, 3) := by decide +kernel
theorem dX12_apart_26 : decode cX12_apart 26 = .ok (.sipush 630, 3) := by decide +kernel
theorem dX12_apart_29 : decode cX12_apart 29 = .ok (.iconst 3, 1) := by decide +kernel
theorem dX12_apart_30 : decode cX12_apart 30 = .ok (.iload_n 1, 1) := by decide +kernel
theorem dX12_apart_31 : decode cX12_apart 31 = .ok (.imul, 1) := by decide +kernel
theorem dX12_apart_32 : decode cX12_apart 32 = .ok (.iadd, 1) := by decide +kernel
theorem dX12_apart_33 : decode cX12_apart 33 = .ok (.iconst 1, 1) := by decide +kernel
theorem dX12_apart_34 : decode cX12_apart 34 = .ok (.iadd, 1) := by decide +kernel
theorem dX12_apart_35 : decode cX12_apart 35 = .ok (.iaload, 1) := by decide +kernel
theorem dX12_apart_36 : decode cX12_apart 36 = .ok (.i2l, 1) := by decide +kernel
theorem dX12_apart_37 : decode cX12_apart 37 = .ok (.lstore_n 3, 1) := by decide +kernel
theorem dX12_apart_38 : decode cX12_apart 38 = .ok (.aload_n 0, 1) := by decide +kernel
theorem dX12_apart_39 : decode cX12_apart 39 = .ok (.getfield 7, 3) := by decide +kernel
theorem dX12_apart_42 : decode cX12_apart 42 = .ok (.sipush 630, 3) := by decide +kernel
theorem dX12_apart_45 : decode cX12_apart 45 = .ok (.iconst 3, 1) := by decide +kernel
theorem dX12_apart_46 : decode cX12_apart 46 = .ok (.iload_n 1, 1) := by decide +kernel
theorem dX12_apart_47 : decode cX12_apart 47 = .ok (.imul, 1) := by decide +kernel
theorem dX12_apart_48 : decode cX12_apart 48 = .ok (.iadd, 1) := by decide +kernel
theorem dX12_apart_49 : decode cX12_apart 49 = .ok (.iconst 2, 1) := by decide +kernel
theorem dX12_apart_50 : decode cX12_apart 50 = .ok (.iadd, 1) := by decide +kernel
theorem dX12_apart_51 : decode cX12_apart 51 = .ok (.iaload, 1) := by decide +kernel
theorem dX12_apart_52 : decode cX12_apart 52 = .ok (.i2l, 1) := by decide +kernel
theorem dX12_apart_53 : decode cX12_apart 53 = .ok (.lstore 5, 2) := by decide +kernel
theorem dX12_apart_55 : decode cX12_apart 55 = .ok (.aload_n 0, 1) := by decide +kernel
theorem dX12_apart_56 : decode cX12_apart 56 = .ok (.getfield 7, 3) := by decide +kernel
theorem dX12_apart_59 : decode cX12_apart 59 = .ok (.sipush 630, 3) := by decide +kernel
theorem dX12_apart_62 : decode cX12_apart 62 = .ok (.iconst 3, 1) := by decide +kernel
theorem dX12_apart_63 : decode cX12_apart 63 = .ok (.iload_n 2, 1) := by decide +kernel
theorem dX12_apart_64 : decode cX12_apart 64 = .ok (.imul, 1) := by decide +kernel
theorem dX12_apart_65 : decode cX12_apart 65 = .ok (.iadd, 1) := by decide +kernel
theorem dX12_apart_66 : decode cX12_apart 66 = .ok (.iconst 1, 1) := by decide +kernel
theorem dX12_apart_67 : decode cX12_apart 67 = .ok (.iadd, 1) := by decide +kernel
theorem dX12_apart_68 : decode cX12_apart 68 = .ok (.iaload, 1) := by decide +kernel
theorem dX12_apart_69 : decode cX12_apart 69 = .ok (.i2l, 1) := by decide +kernel
theorem dX12_apart_70 : decode cX12_apart 70 = .ok (.lstore 7, 2) := by decide +kernel
theorem dX12_apart_72 : decode cX12_apart 72 = .ok (.aload_n 0, 1) := by decide +kernel
theorem dX12_apart_73 : decode cX12_apart 73 = .ok (.getfield 7, 3) := by decide +kernel
theorem dX12_apart_76 : decode cX12_apart 76 = .ok (.sipush 630, 3) := by decide +kernel
theorem dX12_apart_79 : decode cX12_apart 79 = .ok (.iconst 3, 1) := by decide +kernel
theorem dX12_apart_80 : decode cX12_apart 80 = .ok (.iload_n 2, 1) := by decide +kernel
theorem dX12_apart_81 : decode cX12_apart 81 = .ok (.imul, 1) := by decide +kernel
theorem dX12_apart_82 : decode cX12_apart 82 = .ok (.iadd, 1) := by decide +kernel
theorem dX12_apart_83 : decode cX12_apart 83 = .ok (.iconst 2, 1) := by decide +kernel
theorem dX12_apart_84 : decode cX12_apart 84 = .ok (.iadd, 1) := by decide +kernel
theorem dX12_apart_85 : decode cX12_apart 85 = .ok (.iaload, 1) := by decide +kernel
theorem dX12_apart_86 : decode cX12_apart 86 = .ok (.i2l, 1) := by decide +kernel
theorem dX12_apart_87 : decode cX12_apart 87 = .ok (.lstore 9, 2) := by decide +kernel
theorem dX12_apart_89 : decode cX12_apart 89 = .ok (.lload 5, 2) := by decide +kernel
theorem dX12_apart_91 : decode cX12_apart 91 = .ok (.lload 7, 2) := by decide +kernel
theorem dX12_apart_93 : decode cX12_apart 93 = .ok (.lmul, 1) := by decide +kernel
theorem dX12_apart_94 : decode cX12_apart 94 = .ok (.lload 9, 2) := by decide +kernel
theorem dX12_apart_96 : decode cX12_apart 96 = .ok (.lload_n 3, 1) := by decide +kernel
theorem dX12_apart_97 : decode cX12_apart 97 = .ok (.lmul, 1) := by decide +kernel
theorem dX12_apart_98 : decode cX12_apart 98 = .ok (.lsub, 1) := by decide +kernel
theorem dX12_apart_99 : decode cX12_apart 99 = .ok (.lstore 11, 2) := by decide +kernel
theorem dX12_apart_101 : decode cX12_apart 101 = .ok (.lload 11, 2) := by decide +kernel
theorem dX12_apart_103 : decode cX12_apart 103 = .ok (.lload 11, 2) := by decide +kernel
theorem dX12_apart_105 : decode cX12_apart 105 = .ok (.lmul, 1) := by decide +kernel
theorem dX12_apart_106 : decode cX12_apart 106 = .ok (.lload_n 3, 1) := by decide +kernel
theorem dX12_apart_107 : decode cX12_apart 107 = .ok (.lload 7, 2) := by decide +kernel
theorem dX12_apart_109 : decode cX12_apart 109 = .ok (.ladd, 1) := by decide +kernel
theorem dX12_apart_110 : decode cX12_apart 110 = .ok (.lmul, 1) := by decide +kernel
theorem dX12_apart_111 : decode cX12_apart 111 = .ok (.ldc2_w 286, 3) := by decide +kernel
theorem dX12_apart_114 : decode cX12_apart 114 = .ok (.lload 5, 2) := by decide +kernel
theorem dX12_apart_116 : decode cX12_apart 116 = .ok (.lload 9, 2) := by decide +kernel
theorem dX12_apart_118 : decode cX12_apart 118 = .ok (.ladd, 1) := by decide +kernel
theorem dX12_apart_119 : decode cX12_apart 119 = .ok (.lmul, 1) := by decide +kernel
theorem dX12_apart_120 : decode cX12_apart 120 = .ok (.lload_n 3, 1) := by decide +kernel
theorem dX12_apart_121 : decode cX12_apart 121 = .ok (.lload 7, 2) := by decide +kernel
theorem dX12_apart_123 : decode cX12_apart 123 = .ok (.ladd, 1) := by decide +kernel
theorem dX12_apart_124 : decode cX12_apart 124 = .ok (.lload 5, 2) := by decide +kernel
theorem dX12_apart_126 : decode cX12_apart 126 = .ok (.lsub, 1) := by decide +kernel
theorem dX12_apart_127 : decode cX12_apart 127 = .ok (.lload 9, 2) := by decide +kernel
theorem dX12_apart_129 : decode cX12_apart 129 = .ok (.lsub, 1) := by decide +kernel
theorem dX12_apart_130 : decode cX12_apart 130 = .ok (.lmul, 1) := by decide +kernel
theorem dX12_apart_131 : decode cX12_apart 131 = .ok (.lload_n 3, 1) := by decide +kernel
theorem dX12_apart_132 : decode cX12_apart 132 = .ok (.lmul, 1) := by decide +kernel
theorem dX12_apart_133 : decode cX12_apart 133 = .ok (.lload 7, 2) := by decide +kernel
theorem dX12_apart_135 : decode cX12_apart 135 = .ok (.lmul, 1) := by decide +kernel
theorem dX12_apart_136 : decode cX12_apart 136 = .ok (.lcmp, 1) := by decide +kernel
theorem dX12_apart_137 : decode cX12_apart 137 = .ok (.ifCond .le 7, 3) := by decide +kernel
theorem dX12_apart_140 : decode cX12_apart 140 = .ok (.iconst 1, 1) := by decide +kernel
theorem dX12_apart_141 : decode cX12_apart 141 = .ok (.goto 4, 3) := by decide +kernel
theorem dX12_apart_144 : decode cX12_apart 144 = .ok (.iconst 0, 1) := by decide +kernel
theorem dX12_apart_145 : decode cX12_apart 145 = .ok (.ireturn, 1) := by decide +kernel
set_option maxRecDepth 100000 in
set_option maxHeartbeats 4000000 in
theorem k_apart (l : Launch) {D : va_G} {cI cZ : ClassId} {a0 : Nat} (σ : Nat → Nat → Int) (a : Int) (b : Int) (hσ : rg σ) (hc : cn (σ 1)) (hci : ci (σ 1)) (r_a : inI a) (r_b : inI b) : moM l D cI cZ a0 yX12_apart cX12_apart 13 (some .boolean) 2 44 [.ref a0, .int (iz a), .int (iz b)] σ (some (.int (iz (xb (decide ((0 ≤ a ∧ a ≤ σ 1 6 - 1) ∧ (0 ≤ b ∧ b ≤ σ 1 6 - 1)) && apx (σ 1) a.toNat b.toNat))))) (σ) := by
  refine mo_start (by decide) rfl (Nat.le_of_ble_eq_true rfl) ?_
  intro p e s m args below meth c C K hr hlk
  refine hv_aload_n C 0 0 dX12_apart_0 rfl rfl ?_
  refine hv_iload_n C 1 1 dX12_apart_1 rfl rfl ?_
  refine hv_bipush C dX12_apart_2 (by decide) ?_
  refine mo_call [.int (iz a), .int (iz 6)] [] C K (k_isOf l σ a 6 hσ (by omega) (by omega) (by omega)) ck_isOf (by decide) rfl (Nat.le_of_ble_eq_true rfl) dX12_apart_4 ?_
  refine hv_dif_eq C 20 dX12_apart_7 (by decide)  (fun h7 => ?_) (fun h7 => ?_)
  · skip
    refine hv_iconst C dX12_apart_20 ?_
    exact mo_zret (Qc := fun _ _ _ _ => True) C hr hlk ((xb_f (by first | (simp only [Bool.and_eq_false_iff, decide_eq_false_iff_not]; left; omega) | (subst_vars; simp only [Int.toNat_natCast, Bool.and_eq_true, decide_eq_true_eq]; exact ⟨by omega, decide_eq_true h137⟩) | (subst_vars; simp only [Int.toNat_natCast, Bool.and_eq_false_iff]; right; exact decide_eq_false (Int.not_lt.mpr h137)))).symm) rfl dX12_apart_21
  · skip
    refine hv_aload_n C 0 0 dX12_apart_10 rfl rfl ?_
    refine hv_iload_n C 2 2 dX12_apart_11 rfl rfl ?_
    refine hv_bipush C dX12_apart_12 (by decide) ?_
    refine mo_call [.int (iz b), .int (iz 6)] [] C K (k_isOf l σ b 6 hσ (by omega) (by omega) (by omega)) ck_isOf (by decide) rfl (Nat.le_of_ble_eq_true rfl) dX12_apart_14 ?_
    refine hv_dif_ne C 22 dX12_apart_17 (by decide)  (fun h17 => ?_) (fun h17 => ?_)
    · skip
      obtain ⟨an, rfl⟩ : ∃ n : Nat, a = (n : Int) := ⟨(a).toNat, by omega⟩
      obtain ⟨bn, rfl⟩ : ∃ n : Nat, b = (n : Int) := ⟨(b).toNat, by omega⟩
      have c1 := hci an (by omega)
      have c2 := hci bn (by omega)
      refine hv_aload_n C 0 0 dX12_apart_22 rfl rfl ?_
      refine mo_geta C K 0 1 (by decide) rfl mo_hw fl_7 rfl dX12_apart_23 ?_
      refine hv_sipush C dX12_apart_26 (by decide) ?_
      refine hv_iconst C dX12_apart_29 ?_
      refine hv_iload_n C 1 1 dX12_apart_30 rfl rfl ?_
      refine hv_imul C dX12_apart_31 ?_
      refine hv_iadd C dX12_apart_32 ?_
      refine hv_iconst C dX12_apart_33 ?_
      refine hv_iadd C dX12_apart_34 ?_
      refine mo_iald C K 1 9040 ((630 + (3 * an)) + 1) rfl (by omega) (by omega) (by decide) dX12_apart_35 ?_
      refine hv_nm (fun x1 ex1 => ?_)
      have rx1 : inI x1 := by rw [ex1]; exact hσ 1 ((630 + (3 * an)) + 1)
      refine hv_i2l C (by omega) dX12_apart_36 ?_
      refine hv_lstore_n C 3 [(3, .long (lz x1)), (0, .ref a0), (1, .int (iz ((an : Nat) : Int))), (2, .int (iz ((bn : Nat) : Int)))] dX12_apart_37 rfl (by decide) rfl ?_
      refine hv_aload_n C 0 1 dX12_apart_38 rfl rfl ?_
      refine mo_geta C K 0 1 (by decide) rfl mo_hw fl_7 rfl dX12_apart_39 ?_
      refine hv_sipush C dX12_apart_42 (by decide) ?_
      refine hv_iconst C dX12_apart_45 ?_
      refine hv_iload_n C 1 2 dX12_apart_46 rfl rfl ?_
      refine hv_imul C dX12_apart_47 ?_
      refine hv_iadd C dX12_apart_48 ?_
      refine hv_iconst C dX12_apart_49 ?_
      refine hv_iadd C dX12_apart_50 ?_
      refine mo_iald C K 1 9040 ((630 + (3 * an)) + 2) rfl (by omega) (by omega) (by decide) dX12_apart_51 ?_
      refine hv_nm (fun x2 ex2 => ?_)
      have rx2 : inI x2 := by rw [ex2]; exact hσ 1 ((630 + (3 * an)) + 2)
      refine hv_i2l C (by omega) dX12_apart_52 ?_
      refine hv_lstore C 5 [(5, .long (lz x2)), (3, .long (lz x1)), (0, .ref a0), (1, .int (iz ((an : Nat) : Int))), (2, .int (iz ((bn : Nat) : Int)))] dX12_apart_53 (by decide) rfl ?_
      refine hv_aload_n C 0 2 dX12_apart_55 rfl rfl ?_
      refine mo_geta C K 0 1 (by decide) rfl mo_hw fl_7 rfl dX12_apart_56 ?_
      refine hv_sipush C dX12_apart_59 (by decide) ?_
      refine hv_iconst C dX12_apart_62 ?_
      refine hv_iload_n C 2 4 dX12_apart_63 rfl rfl ?_
      refine hv_imul C dX12_apart_64 ?_
      refine hv_iadd C dX12_apart_65 ?_
      refine hv_iconst C dX12_apart_66 ?_
      refine hv_iadd C dX12_apart_67 ?_
      refine mo_iald C K 1 9040 ((630 + (3 * bn)) + 1) rfl (by omega) (by omega) (by decide) dX12_apart_68 ?_
      refine hv_nm (fun x3 ex3 => ?_)
      have rx3 : inI x3 := by rw [ex3]; exact hσ 1 ((630 + (3 * bn)) + 1)
      refine hv_i2l C (by omega) dX12_apart_69 ?_
      refine hv_lstore C 7 [(7, .long (lz x3)), (5, .long (lz x2)), (3, .long (lz x1)), (0, .ref a0), (1, .int (iz ((an : Nat) : Int))), (2, .int (iz ((bn : Nat) : Int)))] dX12_apart_70 (by decide) rfl ?_
      refine hv_aload_n C 0 3 dX12_apart_72 rfl rfl ?_
      refine mo_geta C K 0 1 (by decide) rfl mo_hw fl_7 rfl dX12_apart_73 ?_
      refine hv_sipush C dX12_apart_76 (by decide) ?_
      refine hv_iconst C dX12_apart_79 ?_
      refine hv_iload_n C 2 5 dX12_apart_80 rfl rfl ?_
      refine hv_imul C dX12_apart_81 ?_
      refine hv_iadd C dX12_apart_82 ?_
      refine hv_iconst C dX12_apart_83 ?_
      refine hv_iadd C dX12_apart_84 ?_
      refine mo_iald C K 1 9040 ((630 + (3 * bn)) + 2) rfl (by omega) (by omega) (by decide) dX12_apart_85 ?_
      refine hv_nm (fun x4 ex4 => ?_)
      have rx4 : inI x4 := by rw [ex4]; exact hσ 1 ((630 + (3 * bn)) + 2)
      refine hv_i2l C (by omega) dX12_apart_86 ?_
      refine hv_lstore C 9 [(9, .long (lz x4)), (7, .long (lz x3)), (5, .long (lz x2)), (3, .long (lz x1)), (0, .ref a0), (1, .int (iz ((an : Nat) : Int))), (2, .int (iz ((bn : Nat) : Int)))] dX12_apart_87 (by decide) rfl ?_
      refine hv_lload C 5 2 dX12_apart_89 rfl ?_
      refine hv_lload C 7 1 dX12_apart_91 rfl ?_
      refine hv_lmul C dX12_apart_93 ?_
      refine hv_lload C 9 0 dX12_apart_94 rfl ?_
      refine hv_lload_n C 3 3 dX12_apart_96 rfl rfl ?_
      refine hv_lmul C dX12_apart_97 ?_
      refine hv_lsub C dX12_apart_98 ?_
      refine hv_lstore C 11 [(11, .long (lz ((x2 * x3) - (x4 * x1)))), (9, .long (lz x4)), (7, .long (lz x3)), (5, .long (lz x2)), (3, .long (lz x1)), (0, .ref a0), (1, .int (iz ((an : Nat) : Int))), (2, .int (iz ((bn : Nat) : Int)))] dX12_apart_99 (by decide) rfl ?_
      refine hv_lload C 11 0 dX12_apart_101 rfl ?_
      refine hv_lload C 11 0 dX12_apart_103 rfl ?_
      refine hv_lmul C dX12_apart_105 ?_
      refine hv_lload_n C 3 4 dX12_apart_106 rfl rfl ?_
      refine hv_lload C 7 2 dX12_apart_107 rfl ?_
      refine hv_ladd C dX12_apart_109 ?_
      refine hv_lmul C dX12_apart_110 ?_
      refine hv_ldc2 C (n := 4) lc_286 rfl dX12_apart_111 ?_
      refine hv_lload C 5 3 dX12_apart_114 rfl ?_
      refine hv_lload C 9 1 dX12_apart_116 rfl ?_
      refine hv_ladd C dX12_apart_118 ?_
      refine hv_lmul C dX12_apart_119 ?_
      refine hv_lload_n C 3 4 dX12_apart_120 rfl rfl ?_
      refine hv_lload C 7 2 dX12_apart_121 rfl ?_
      refine hv_ladd C dX12_apart_123 ?_
      refine hv_lload C 5 3 dX12_apart_124 rfl ?_
      refine hv_lsub C dX12_apart_126 ?_
      refine hv_lload C 9 1 dX12_apart_127 rfl ?_
      refine hv_lsub C dX12_apart_129 ?_
      refine hv_lmul C dX12_apart_130 ?_
      refine hv_lload_n C 3 4 dX12_apart_131 rfl rfl ?_
      refine hv_lmul C dX12_apart_132 ?_
      refine hv_lload C 7 2 dX12_apart_133 rfl ?_
      refine hv_lmul C dX12_apart_135 ?_
      refine hv_lcmp C (ap_x (by omega) (by omega) (by omega) (by omega)) (ap_y (by omega) (by omega) (by omega) (by omega)) dX12_apart_136 ?_
      refine hv_cif_le C 144 dX12_apart_137 (by decide)  (fun h137 => ?_) (fun h137 => ?_)
      · skip
        refine hv_iconst C dX12_apart_144 ?_
        exact mo_zret (Qc := fun _ _ _ _ => True) C hr hlk ((xb_f (by first | (simp only [Bool.and_eq_false_iff, decide_eq_false_iff_not]; left; omega) | (subst_vars; simp only [Int.toNat_natCast, Bool.and_eq_true, decide_eq_true_eq]; exact ⟨by omega, decide_eq_true h137⟩) | (subst_vars; simp only [Int.toNat_natCast, Bool.and_eq_false_iff]; right; exact decide_eq_false (Int.not_lt.mpr h137)))).symm) rfl dX12_apart_145
      · skip
        refine hv_iconst C dX12_apart_140 ?_
        refine hv_goto C 145 dX12_apart_141 (by decide) ?_
        exact mo_zret (Qc := fun _ _ _ _ => True) C hr hlk ((xb_t (by first | (simp only [Bool.and_eq_false_iff, decide_eq_false_iff_not]; left; omega) | (subst_vars; simp only [Int.toNat_natCast, Bool.and_eq_true, decide_eq_true_eq]; exact ⟨by omega, decide_eq_true h137⟩) | (subst_vars; simp only [Int.toNat_natCast, Bool.and_eq_false_iff]; right; exact decide_eq_false (Int.not_lt.mpr h137)))).symm) rfl dX12_apart_145
    · skip
      refine hv_iconst C dX12_apart_20 ?_
      exact mo_zret (Qc := fun _ _ _ _ => True) C hr hlk ((xb_f (by first | (simp only [Bool.and_eq_false_iff, decide_eq_false_iff_not]; left; omega) | (subst_vars; simp only [Int.toNat_natCast, Bool.and_eq_true, decide_eq_true_eq]; exact ⟨by omega, decide_eq_true h137⟩) | (subst_vars; simp only [Int.toNat_natCast, Bool.and_eq_false_iff]; right; exact decide_eq_false (Int.not_lt.mpr h137)))).symm) rfl dX12_apart_21
