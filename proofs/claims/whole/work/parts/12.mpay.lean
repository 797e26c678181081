theorem sd_in {A : Nat → Int} (hc : cn A) (s : Nat) (d t : Int) : inI (sd A s d t) := by
  have h := sd_rng hc s d t
  exact ⟨by omega, by omega⟩
abbrev hsn (A : Nat → Int) (h : Nat) : Prop := A 9 = -1 ∨ A (280 + 8 * h + 7) ≤ A 9
def pd1 (A : Nat → Int) (s h : Nat) : Nat → Int
  | 0 => 0
  | i + 1 => pd1 A s h i + (if sd A s (A (280 + 8 * h + 1)) (A (280 + 8 * h + 2) + (i : Int)) = (h : Int) then (if line A s h (i : Int) true < 0 then 0 else la A h (line A s h (i : Int) true).toNat 18) else 0)
def pd (A : Nat → Int) (s : Nat) (a b : Int) : Nat → Int
  | 0 => 0
  | h + 1 => pd A s a b h + (if hsn A h ∧ (a ≤ A (280 + 8 * h + 1) ∧ A (280 + 8 * h + 1) ≤ b) ∧ ¬ A (280 + 8 * h + 6) = 0 then pd1 A s h (A (280 + 8 * h + 3)).toNat else 0)
def od1 (A : Nat → Int) (s h : Nat) : Nat → Int
  | 0 => 0
  | i + 1 => od1 A s h i + (if sd A s (A (280 + 8 * h + 1)) (A (280 + 8 * h + 2) + (i : Int)) = (h : Int) then 0 else 1)
def od (A : Nat → Int) (s : Nat) (a b : Int) : Nat → Int
  | 0 => 0
  | h + 1 => od A s a b h + (if hsn A h ∧ (a ≤ A (280 + 8 * h + 1) ∧ A (280 + 8 * h + 1) ≤ b) ∧ ¬ A (280 + 8 * h + 6) / 2 ^ s % 2 ^ 1 = 0 then od1 A s h (A (280 + 8 * h + 3)).toNat else 0)
def lst (A : Nat → Int) (s : Nat) (k : Int) : Nat → Nat → Int → Int
  | 0, _, _ => -1
  | f + 1, h, n => if hsn A h ∧ ¬ A (280 + 8 * h + 6) / 2 ^ s % 2 ^ 1 = 0 ∧ ¬ member A s (A (280 + 8 * h + 1)) = A (280 + 8 * h + 0) then (if n = k then (h : Int) else lst A s k f (h + 1) (n + 1)) else lst A s k f (h + 1) n
def ml (A : Nat → Int) (st : Int) : Nat → Int
  | 0 => 0
  | w + 1 => ml A st w + (if st / 2 ^ w % 2 ^ 1 = 1 then A (30 + 4 * w + 2) else 0)

theorem dX12_paid_0 : decode cX12_paid 0 = .ok (.aload_n 0, 1) := by decide +kernel
theorem dX12_paid_1 : decode cX12_paid 1 = .ok (.iload_n 1, 1) := by decide +kernel
theorem dX12_paid_2 : decode cX12_paid 2 = .ok (.iconst 2, 1) := by decide +kernel
theorem dX12_paid_3 : decode cX12_paid 3 = .ok (.invokevirtual 63, 3) := by decide +kernel
theorem dX12_paid_6 : decode cX12_paid 6 = .ok (.ifCond .eq 11, 3) := by decide +kernel
theorem dX12_paid_9 : decode cX12_paid 9 = .ok (.iload_n 2, 1) := by decide +kernel
theorem dX12_paid_10 : decode cX12_paid 10 = .ok (.iload_n 3, 1) := by decide +kernel
theorem dX12_paid_11 : decode cX12_paid 11 = .ok (.invokestatic 283, 3) := by decide +kernel
theorem dX12_paid_14 : decode cX12_paid 14 = .ok (.ifCond .ne 5, 3) := by decide +kernel
theorem dX12_paid_17 : decode cX12_paid 17 = .ok (.iconst (-1), 1) := by decide +kernel
theorem dX12_paid_18 : decode cX12_paid 18 = .ok (.ireturn, 1) := by decide +kernel
theorem dX12_paid_19 : decode cX12_paid 19 = .ok (.iconst 0, 1) := by decide +kernel
theorem dX12_paid_20 : decode cX12_paid 20 = .ok (.istore 4, 2) := by decide +kernel
theorem dX12_paid_22 : decode cX12_paid 22 = .ok (.iconst 0, 1) := by decide +kernel
theorem dX12_paid_23 : decode cX12_paid 23 = .ok (.istore 5, 2) := by decide +kernel
theorem dX12_paid_25 : decode cX12_paid 25 = .ok (.iload 5, 2) := by decide +kernel
theorem dX12_paid_27 : decode cX12_paid 27 = .ok (.aload_n 0, 1) := by decide +kernel
theorem dX12_paid_28 : decode cX12_paid 28 = .ok (.getfield 7, 3) := by decide +kernel
theorem dX12_paid_31 : decode cX12_paid 31 = .ok (.iconst 4, 1) := by decide +kernel
theorem dX12_paid_32 : decode cX12_paid 32 = .ok (.iaload, 1) := by decide +kernel
theorem dX12_paid_33 : decode cX12_paid 33 = .ok (.if_icmp .ge 134, 3) := by decide +kernel
theorem dX12_paid_36 : decode cX12_paid 36 = .ok (.aload_n 0, 1) := by decide +kernel
theorem dX12_paid_37 : decode cX12_paid 37 = .ok (.iload 5, 2) := by decide +kernel
theorem dX12_paid_39 : decode cX12_paid 39 = .ok (.invokevirtual 213, 3) := by decide +kernel
theorem dX12_paid_42 : decode cX12_paid 42 = .ok (.ifCond .eq 119, 3) := by decide +kernel
theorem dX12_paid_45 : decode cX12_paid 45 = .ok (.aload_n 0, 1) := by decide +kernel
theorem dX12_paid_46 : decode cX12_paid 46 = .ok (.iload 5, 2) := by decide +kernel
theorem dX12_paid_48 : decode cX12_paid 48 = .ok (.iconst 1, 1) := by decide +kernel
theorem dX12_paid_49 : decode cX12_paid 49 = .ok (.invokevirtual 67, 3) := by decide +kernel
theorem dX12_paid_52 : decode cX12_paid 52 = .ok (.iload_n 2, 1) := by decide +kernel
theorem dX12_paid_53 : decode cX12_paid 53 = .ok (.iload_n 3, 1) := by decide +kernel
theorem dX12_paid_54 : decode cX12_paid 54 = .ok (.invokestatic 59, 3) := by decide +kernel
theorem dX12_paid_57 : decode cX12_paid 57 = .ok (.ifCond .eq 104, 3) := by decide +kernel
theorem dX12_paid_60 : decode cX12_paid 60 = .ok (.aload_n 0, 1) := by decide +kernel
theorem dX12_paid_61 : decode cX12_paid 61 = .ok (.iload 5, 2) := by decide +kernel
theorem dX12_paid_63 : decode cX12_paid 63 = .ok (.bipush 6, 2) := by decide +kernel
theorem dX12_paid_65 : decode cX12_paid 65 = .ok (.invokevirtual 67, 3) := by decide +kernel
theorem dX12_paid_68 : decode cX12_paid 68 = .ok (.ifCond .ne 6, 3) := by decide +kernel
theorem dX12_paid_71 : decode cX12_paid 71 = .ok (.goto 90, 3) := by decide +kernel
theorem dX12_paid_74 : decode cX12_paid 74 = .ok (.iconst 0, 1) := by decide +kernel
theorem dX12_paid_75 : decode cX12_paid 75 = .ok (.istore 6, 2) := by decide +kernel
theorem dX12_paid_77 : decode cX12_paid 77 = .ok (.iload 6, 2) := by decide +kernel
theorem dX12_paid_79 : decode cX12_paid 79 = .ok (.aload_n 0, 1) := by decide +kernel
theorem dX12_paid_80 : decode cX12_paid 80 = .ok (.iload 5, 2) := by decide +kernel
theorem dX12_paid_82 : decode cX12_paid 82 = .ok (.iconst 3, 1) := by decide +kernel
theorem dX12_paid_83 : decode cX12_paid 83 = .ok (.invokevirtual 67, 3) := by decide +kernel
theorem dX12_paid_86 : decode cX12_paid 86 = .ok (.if_icmp .ge 75, 3) := by decide +kernel
theorem dX12_paid_89 : decode cX12_paid 89 = .ok (.aload_n 0, 1) := by decide +kernel
theorem dX12_paid_90 : decode cX12_paid 90 = .ok (.iload_n 1, 1) := by decide +kernel
theorem dX12_paid_91 : decode cX12_paid 91 = .ok (.aload_n 0, 1) := by decide +kernel
theorem dX12_paid_92 : decode cX12_paid 92 = .ok (.iload 5, 2) := by decide +kernel
theorem dX12_paid_94 : decode cX12_paid 94 = .ok (.iconst 1, 1) := by decide +kernel
theorem dX12_paid_95 : decode cX12_paid 95 = .ok (.invokevirtual 67, 3) := by decide +kernel
theorem dX12_paid_98 : decode cX12_paid 98 = .ok (.aload_n 0, 1) := by decide +kernel
theorem dX12_paid_99 : decode cX12_paid 99 = .ok (.iload 5, 2) := by decide +kernel
theorem dX12_paid_101 : decode cX12_paid 101 = .ok (.iconst 2, 1) := by decide +kernel
theorem dX12_paid_102 : decode cX12_paid 102 = .ok (.invokevirtual 67, 3) := by decide +kernel
theorem dX12_paid_105 : decode cX12_paid 105 = .ok (.iload 6, 2) := by decide +kernel
theorem dX12_paid_107 : decode cX12_paid 107 = .ok (.iadd, 1) := by decide +kernel
theorem dX12_paid_108 : decode cX12_paid 108 = .ok (.invokevirtual 228, 3) := by decide +kernel
theorem dX12_paid_111 : decode cX12_paid 111 = .ok (.iload 5, 2) := by decide +kernel
theorem dX12_paid_113 : decode cX12_paid 113 = .ok (.if_icmp .eq 6, 3) := by decide +kernel
theorem dX12_paid_116 : decode cX12_paid 116 = .ok (.goto 39, 3) := by decide +kernel
theorem dX12_paid_119 : decode cX12_paid 119 = .ok (.aload_n 0, 1) := by decide +kernel
theorem dX12_paid_120 : decode cX12_paid 120 = .ok (.iload_n 1, 1) := by decide +kernel
theorem dX12_paid_121 : decode cX12_paid 121 = .ok (.iload 5, 2) := by decide +kernel
theorem dX12_paid_123 : decode cX12_paid 123 = .ok (.iload 6, 2) := by decide +kernel
theorem dX12_paid_125 : decode cX12_paid 125 = .ok (.iconst 1, 1) := by decide +kernel
theorem dX12_paid_126 : decode cX12_paid 126 = .ok (.invokevirtual 206, 3) := by decide +kernel
theorem dX12_paid_129 : decode cX12_paid 129 = .ok (.istore 7, 2) := by decide +kernel
theorem dX12_paid_131 : decode cX12_paid 131 = .ok (.iload 4, 2) := by decide +kernel
theorem dX12_paid_133 : decode cX12_paid 133 = .ok (.iload 7, 2) := by decide +kernel
theorem dX12_paid_135 : decode cX12_paid 135 = .ok (.ifCond .ge 7, 3) := by decide +kernel
theorem dX12_paid_138 : decode cX12_paid 138 = .ok (.iconst 0, 1) := by decide +kernel
theorem dX12_paid_139 : decode cX12_paid 139 = .ok (.goto 13, 3) := by decide +kernel
theorem dX12_paid_142 : decode cX12_paid 142 = .ok (.aload_n 0, 1) := by decide +kernel
theorem dX12_paid_143 : decode cX12_paid 143 = .ok (.iload 5, 2) := by decide +kernel
theorem dX12_paid_145 : decode cX12_paid 145 = .ok (.iload 7, 2) := by decide +kernel
theorem dX12_paid_147 : decode cX12_paid 147 = .ok (.bipush 18, 2) := by decide +kernel
theorem dX12_paid_149 : decode cX12_paid 149 = .ok (.invokevirtual 210, 3) := by decide +kernel
theorem dX12_paid_152 : decode cX12_paid 152 = .ok (.iadd, 1) := by decide +kernel
theorem dX12_paid_153 : decode cX12_paid 153 = .ok (.istore 4, 2) := by decide +kernel
theorem dX12_paid_155 : decode cX12_paid 155 = .ok (.iinc 6 1, 3) := by decide +kernel
theorem dX12_paid_158 : decode cX12_paid 158 = .ok (.goto (-81), 3) := by decide +kernel
theorem dX12_paid_161 : decode cX12_paid 161 = .ok (.iinc 5 1, 3) := by decide +kernel
theorem dX12_paid_164 : decode cX12_paid 164 = .ok (.goto (-139), 3) := by decide +kernel
theorem dX12_paid_167 : decode cX12_paid 167 = .ok (.iload 4, 2) := by decide +kernel
theorem dX12_paid_169 : decode cX12_paid 169 = .ok (.ireturn, 1) := by decide +kernel
set_option maxRecDepth 100000 in
set_option maxHeartbeats 4000000 in
theorem k_paid (l : Launch) {D : va_G} {cI cZ : ClassId} {a0 : Nat} (σ : Nat → Nat → Int) (st : Int) (a : Int) (b : Int) (hσ : rg σ) (hc : cn (σ 1)) (hs : si (σ 1)) (hh : hi (σ 1)) (hl : li (σ 1)) (r_st : inI st) (r_a : inI a) (r_b : inI b) : moM l D cI cZ a0 yX12_paid cX12_paid 8 (some .int) 8 202 [.ref a0, .int (iz st), .int (iz a), .int (iz b)] σ (some (.int (iz (if (0 ≤ st ∧ st ≤ σ 1 2 - 1) ∧ ((0 ≤ a ∧ a ≤ 199) ∧ (a ≤ b ∧ b ≤ 199)) then pd (σ 1) st.toNat a b (σ 1 4).toNat else -1)))) (σ) := by
  refine mo_start (by decide) rfl (Nat.le_of_ble_eq_true rfl) ?_
  intro p e s m args below meth c C K hr hlk
  refine hv_aload_n C 0 0 dX12_paid_0 rfl rfl ?_
  refine hv_iload_n C 1 1 dX12_paid_1 rfl rfl ?_
  refine hv_iconst C dX12_paid_2 ?_
  refine mo_call [.int (iz st), .int (iz 2)] [] C K (k_isOf l σ st 2 hσ (by omega) (by omega) (by omega)) ck_isOf (by decide) rfl (Nat.le_of_ble_eq_true rfl) dX12_paid_3 ?_
  refine hv_dif_eq C 17 dX12_paid_6 (by decide)  (fun h6 => ?_) (fun h6 => ?_)
  · skip
    refine hv_iconst C dX12_paid_17 ?_
    exact mo_iret (Qc := fun _ _ _ _ => True) C hr hlk (by first | exact if_n (by omega) rfl | (refine if_p (by omega) ?_; have e4 : (σ 1 4).toNat = h := (by omega); rw [e4]; simp only [Int.toNat_natCast]; exact hs1)) rfl dX12_paid_18
  · skip
    refine hv_iload_n C 2 2 dX12_paid_9 rfl rfl ?_
    refine hv_iload_n C 3 3 dX12_paid_10 rfl rfl ?_
    refine mo_callS [.int (iz a), .int (iz b)] [] C K (k_areDays l σ a b (by omega) (by omega)) ck_areDays (by decide) rfl (Nat.le_of_ble_eq_true rfl) dX12_paid_11 ?_
    refine hv_dif_ne C 19 dX12_paid_14 (by decide)  (fun h14 => ?_) (fun h14 => ?_)
    · skip
      obtain ⟨sn, rfl⟩ : ∃ n : Nat, st = (n : Int) := ⟨(st).toNat, by omega⟩
      refine hv_iconst C dX12_paid_19 ?_
      refine hv_istore C 4 [(4, .int (iz 0)), (0, .ref a0), (1, .int (iz ((sn : Nat) : Int))), (2, .int (iz a)), (3, .int (iz b))] dX12_paid_20 (by decide) rfl ?_
      refine hv_iconst C dX12_paid_22 ?_
      refine hv_istore C 5 [(5, .int (iz 0)), (4, .int (iz 0)), (0, .ref a0), (1, .int (iz ((sn : Nat) : Int))), (2, .int (iz a)), (3, .int (iz b))] dX12_paid_23 (by decide) rfl ?_
      have L25 : ∀ (f : Nat) (h : Nat) (sum : Int), (σ 1 4).toNat - h < f → (h : Int) ≤ σ 1 4 → sum = pd (σ 1) sn a b h → hvV p l e { frames := 8, cells := 0, slots := 0, locals := 202 } s m args below meth c 8 (moR a0) 0 0 (MQ below (moQ D cI cZ a0 (some (.int (iz (if (0 ≤ ((sn : Nat) : Int) ∧ ((sn : Nat) : Int) ≤ σ 1 2 - 1) ∧ ((0 ≤ a ∧ a ≤ 199) ∧ (a ≤ b ∧ b ≤ 199)) then pd (σ 1) ((sn : Nat) : Int).toNat a b (σ 1 4).toNat else -1)))) (σ)) args s 0 0 (moR a0)) (moI D cI cZ a0 s.heap σ) 25 [(0, .ref a0), (1, .int (iz ((sn : Nat) : Int))), (2, .int (iz a)), (3, .int (iz b)), (4, .int (iz sum)), (5, .int (iz ((h : Nat) : Int)))] [] := by
        intro f
        induction f with
        | zero => intro _ _ hm; exact absurd hm (Nat.not_lt_zero _)
        | succ f ih25 =>
          intro h sum hm25 hh0 hs1
          refine hv_iload C 5 5 dX12_paid_25 rfl ?_
          refine hv_aload_n C 0 0 dX12_paid_27 rfl rfl ?_
          refine mo_geta C K 0 1 (by decide) rfl mo_hw fl_7 rfl dX12_paid_28 ?_
          refine hv_iconst C dX12_paid_31 ?_
          refine mo_iald C K 1 9040 4 rfl (by omega) (by omega) (by decide) dX12_paid_32 ?_
          refine hv_nm (fun x1 ex1 => ?_)
          have rx1 : inI x1 := by rw [ex1]; exact hσ 1 4
          refine hv_icmp_ge C 167 dX12_paid_33 (by decide) (by omega) (by omega) (fun h33 => ?_) (fun h33 => ?_)
          · skip
            refine hv_iload C 4 4 dX12_paid_167 rfl ?_
            exact mo_iret (Qc := fun _ _ _ _ => True) C hr hlk (by first | exact if_n (by omega) rfl | (refine if_p (by omega) ?_; have e4 : (σ 1 4).toNat = h := (by omega); rw [e4]; simp only [Int.toNat_natCast]; exact hs1)) rfl dX12_paid_169
          · skip
            have a2 := hh h (by omega)
            refine hv_aload_n C 0 0 dX12_paid_36 rfl rfl ?_
            refine hv_iload C 5 5 dX12_paid_37 rfl ?_
            refine mo_call [.int (iz ((h : Nat) : Int))] [] C K (k_isHour l σ ((h : Nat) : Int) hσ (by omega) (by omega)) ck_isHour (by decide) rfl (Nat.le_of_ble_eq_true rfl) dX12_paid_39 ?_
            refine hv_dif_eq C 161 dX12_paid_42 (by decide)  (fun h42 => ?_) (fun h42 => ?_)
            · skip
              (try simp only [Int.toNat_natCast] at h42)
              refine hv_iinc C 5 5 [(5, .int (iz (((h : Nat) : Int) + 1))), (0, .ref a0), (1, .int (iz ((sn : Nat) : Int))), (2, .int (iz a)), (3, .int (iz b)), (4, .int (iz sum))] dX12_paid_161 rfl (by decide) rfl ?_
              refine hv_goto C 25 dX12_paid_164 (by decide) ?_
              refine hv_loc [1, 2, 3, 4, 5, 0] [(0, .ref a0), (1, .int (iz ((sn : Nat) : Int))), (2, .int (iz a)), (3, .int (iz b)), (4, .int (iz sum)), (5, .int (iz (((h : Nat) : Int) + 1)))] rfl ?_
              exact ih25 (h + 1) sum (by omega) (by omega) (by simp only [pd]; first | (rw [if_neg (by omega)]; omega) | (rw [if_pos (by omega)]; have e3 : (σ 1 (280 + 8 * h + 3)).toNat = i := (by omega); rw [e3]; exact hs2))
            · skip
              (try simp only [Int.toNat_natCast] at h42)
              refine hv_aload_n C 0 0 dX12_paid_45 rfl rfl ?_
              refine hv_iload C 5 5 dX12_paid_46 rfl ?_
              refine hv_iconst C dX12_paid_48 ?_
              refine mo_call [.int (iz ((h : Nat) : Int)), .int (iz 1)] [] C K (k_hourOf l σ h 1 (by omega) (by omega)) ck_hourOf (by decide) rfl (Nat.le_of_ble_eq_true rfl) dX12_paid_49 ?_
              refine hv_nm (fun x2 ex2 => ?_)
              have rx2 : inI x2 := by rw [ex2]; exact hσ _ _
              refine hv_iload_n C 2 2 dX12_paid_52 rfl rfl ?_
              refine hv_iload_n C 3 3 dX12_paid_53 rfl rfl ?_
              refine mo_callS [.int (iz x2), .int (iz a), .int (iz b)] [] C K (k_isIn l σ x2 a b (by omega) (by omega) (by omega)) ck_isIn (by decide) rfl (Nat.le_of_ble_eq_true rfl) dX12_paid_54 ?_
              refine hv_dif_eq C 161 dX12_paid_57 (by decide)  (fun h57 => ?_) (fun h57 => ?_)
              · skip
                (try simp only [Int.toNat_natCast] at h42)
                refine hv_iinc C 5 5 [(5, .int (iz (((h : Nat) : Int) + 1))), (0, .ref a0), (1, .int (iz ((sn : Nat) : Int))), (2, .int (iz a)), (3, .int (iz b)), (4, .int (iz sum))] dX12_paid_161 rfl (by decide) rfl ?_
                refine hv_goto C 25 dX12_paid_164 (by decide) ?_
                refine hv_loc [1, 2, 3, 4, 5, 0] [(0, .ref a0), (1, .int (iz ((sn : Nat) : Int))), (2, .int (iz a)), (3, .int (iz b)), (4, .int (iz sum)), (5, .int (iz (((h : Nat) : Int) + 1)))] rfl ?_
                exact ih25 (h + 1) sum (by omega) (by omega) (by simp only [pd]; first | (rw [if_neg (by omega)]; omega) | (rw [if_pos (by omega)]; have e3 : (σ 1 (280 + 8 * h + 3)).toNat = i := (by omega); rw [e3]; exact hs2))
              · skip
                refine hv_aload_n C 0 0 dX12_paid_60 rfl rfl ?_
                refine hv_iload C 5 5 dX12_paid_61 rfl ?_
                refine hv_bipush C dX12_paid_63 (by decide) ?_
                refine mo_call [.int (iz ((h : Nat) : Int)), .int (iz 6)] [] C K (k_hourOf l σ h 6 (by omega) (by omega)) ck_hourOf (by decide) rfl (Nat.le_of_ble_eq_true rfl) dX12_paid_65 ?_
                refine hv_nm (fun x3 ex3 => ?_)
                have rx3 : inI x3 := by rw [ex3]; exact hσ _ _
                refine hv_if_ne C 74 dX12_paid_68 (by decide) (by omega) (fun h68 => ?_) (fun h68 => ?_)
                · skip
                  refine hv_iconst C dX12_paid_74 ?_
                  refine hv_istore C 6 [(6, .int (iz 0)), (0, .ref a0), (1, .int (iz ((sn : Nat) : Int))), (2, .int (iz a)), (3, .int (iz b)), (4, .int (iz sum)), (5, .int (iz ((h : Nat) : Int)))] dX12_paid_75 (by decide) rfl ?_
                  have L77 : ∀ (f : Nat) (i : Nat) (sum2 : Int), (σ 1 (280 + 8 * h + 3)).toNat - i < f → (i : Int) ≤ σ 1 (280 + 8 * h + 3) → sum2 = pd (σ 1) sn a b h + pd1 (σ 1) sn h i → hvV p l e { frames := 8, cells := 0, slots := 0, locals := 202 } s m args below meth c 8 (moR a0) 0 0 (MQ below (moQ D cI cZ a0 (some (.int (iz (if (0 ≤ ((sn : Nat) : Int) ∧ ((sn : Nat) : Int) ≤ σ 1 2 - 1) ∧ ((0 ≤ a ∧ a ≤ 199) ∧ (a ≤ b ∧ b ≤ 199)) then pd (σ 1) ((sn : Nat) : Int).toNat a b (σ 1 4).toNat else -1)))) (σ)) args s 0 0 (moR a0)) (moI D cI cZ a0 s.heap σ) 77 [(0, .ref a0), (1, .int (iz ((sn : Nat) : Int))), (2, .int (iz a)), (3, .int (iz b)), (4, .int (iz sum2)), (5, .int (iz ((h : Nat) : Int))), (6, .int (iz ((i : Nat) : Int)))] [] := by
                    intro f
                    induction f with
                    | zero => intro _ _ hm; exact absurd hm (Nat.not_lt_zero _)
                    | succ f ih77 =>
                      intro i sum2 hm77 hi0 hs2
                      refine hv_iload C 6 6 dX12_paid_77 rfl ?_
                      refine hv_aload_n C 0 0 dX12_paid_79 rfl rfl ?_
                      refine hv_iload C 5 5 dX12_paid_80 rfl ?_
                      refine hv_iconst C dX12_paid_82 ?_
                      refine mo_call [.int (iz ((h : Nat) : Int)), .int (iz 3)] [.int (iz ((i : Nat) : Int))] C K (k_hourOf l σ h 3 (by omega) (by omega)) ck_hourOf (by decide) rfl (Nat.le_of_ble_eq_true rfl) dX12_paid_83 ?_
                      refine hv_nm (fun x4 ex4 => ?_)
                      have rx4 : inI x4 := by rw [ex4]; exact hσ _ _
                      refine hv_icmp_ge C 161 dX12_paid_86 (by decide) (by omega) (by omega) (fun h86 => ?_) (fun h86 => ?_)
                      · skip
                        (try simp only [Int.toNat_natCast] at h42)
                        refine hv_iinc C 5 5 [(5, .int (iz (((h : Nat) : Int) + 1))), (0, .ref a0), (1, .int (iz ((sn : Nat) : Int))), (2, .int (iz a)), (3, .int (iz b)), (4, .int (iz sum2)), (6, .int (iz ((i : Nat) : Int)))] dX12_paid_161 rfl (by decide) rfl ?_
                        refine hv_goto C 25 dX12_paid_164 (by decide) ?_
                        refine hv_loc [1, 2, 3, 4, 5, 0] [(0, .ref a0), (1, .int (iz ((sn : Nat) : Int))), (2, .int (iz a)), (3, .int (iz b)), (4, .int (iz sum2)), (5, .int (iz (((h : Nat) : Int) + 1)))] rfl ?_
                        exact ih25 (h + 1) sum2 (by omega) (by omega) (by simp only [pd]; first | (rw [if_neg (by omega)]; omega) | (rw [if_pos (by omega)]; have e3 : (σ 1 (280 + 8 * h + 3)).toNat = i := (by omega); rw [e3]; exact hs2))
                      · skip
                        refine hv_aload_n C 0 0 dX12_paid_89 rfl rfl ?_
                        refine hv_iload_n C 1 1 dX12_paid_90 rfl rfl ?_
                        refine hv_aload_n C 0 0 dX12_paid_91 rfl rfl ?_
                        refine hv_iload C 5 5 dX12_paid_92 rfl ?_
                        refine hv_iconst C dX12_paid_94 ?_
                        refine mo_call [.int (iz ((h : Nat) : Int)), .int (iz 1)] [.int (iz ((sn : Nat) : Int)), .ref a0] C K (k_hourOf l σ h 1 (by omega) (by omega)) ck_hourOf (by decide) rfl (Nat.le_of_ble_eq_true rfl) dX12_paid_95 ?_
                        refine hv_nm (fun x5 ex5 => ?_)
                        have rx5 : inI x5 := by rw [ex5]; exact hσ _ _
                        refine hv_aload_n C 0 0 dX12_paid_98 rfl rfl ?_
                        refine hv_iload C 5 5 dX12_paid_99 rfl ?_
                        refine hv_iconst C dX12_paid_101 ?_
                        refine mo_call [.int (iz ((h : Nat) : Int)), .int (iz 2)] [.int (iz x5), .int (iz ((sn : Nat) : Int)), .ref a0] C K (k_hourOf l σ h 2 (by omega) (by omega)) ck_hourOf (by decide) rfl (Nat.le_of_ble_eq_true rfl) dX12_paid_102 ?_
                        refine hv_nm (fun x6 ex6 => ?_)
                        have rx6 : inI x6 := by rw [ex6]; exact hσ _ _
                        refine hv_iload C 6 6 dX12_paid_105 rfl ?_
                        refine hv_iadd C dX12_paid_107 ?_
                        refine mo_call [.int (iz ((sn : Nat) : Int)), .int (iz x5), .int (iz (x6 + ((i : Nat) : Int)))] [] C K (k_sendsOf l σ sn x5 (x6 + ((i : Nat) : Int)) hσ (by omega) (by omega) (by omega) (by omega) (by omega) (by omega) (by omega)) ck_sendsOf (by decide) rfl (Nat.le_of_ble_eq_true rfl) dX12_paid_108 ?_
                        refine hv_nm (fun x7 ex7 => ?_)
                        have rx7 : inI x7 := by rw [ex7]; exact sd_in hc _ _ _
                        have es : x7 = sd (σ 1) sn (σ 1 (280 + 8 * h + 1)) (σ 1 (280 + 8 * h + 2) + (i : Int)) := by subst_vars; rfl
                        refine hv_iload C 5 5 dX12_paid_111 rfl ?_
                        refine hv_icmp_eq C 119 dX12_paid_113 (by decide) (by omega) (by omega) (fun h113 => ?_) (fun h113 => ?_)
                        · skip
                          have h9 := line_rng (A := σ 1) sn (i : Int) true hh hl (by omega : (h : Int) < σ 1 4)
                          refine hv_aload_n C 0 0 dX12_paid_119 rfl rfl ?_
                          refine hv_iload_n C 1 1 dX12_paid_120 rfl rfl ?_
                          refine hv_iload C 5 5 dX12_paid_121 rfl ?_
                          refine hv_iload C 6 6 dX12_paid_123 rfl ?_
                          refine hv_iconst C dX12_paid_125 ?_
                          refine mo_call [.int (iz ((sn : Nat) : Int)), .int (iz ((h : Nat) : Int)), .int (iz ((i : Nat) : Int)), .int (iz 1)] [] C K (k_lineOf l σ sn h ((i : Nat) : Int) true hσ (by omega) (by omega) (by omega) (by omega) (by omega) (by omega) (by omega)) ck_lineOf (by decide) rfl (Nat.le_of_ble_eq_true rfl) dX12_paid_126 ?_
                          refine hv_nm (fun x8 ex8 => ?_)
                          have rx8 : inI x8 := by rw [ex8]; exact (by omega)
                          refine hv_istore C 7 [(7, .int (iz x8)), (0, .ref a0), (1, .int (iz ((sn : Nat) : Int))), (2, .int (iz a)), (3, .int (iz b)), (4, .int (iz sum2)), (5, .int (iz ((h : Nat) : Int))), (6, .int (iz ((i : Nat) : Int)))] dX12_paid_129 (by decide) rfl ?_
                          refine hv_iload C 4 5 dX12_paid_131 rfl ?_
                          refine hv_iload C 7 0 dX12_paid_133 rfl ?_
                          refine hv_if_ge C 142 dX12_paid_135 (by decide) (by omega) (fun h135 => ?_) (fun h135 => ?_)
                          · skip
                            obtain ⟨kn, rfl⟩ : ∃ n : Nat, x8 = (n : Int) := ⟨(x8).toNat, by omega⟩
                            have zq9 : (line (σ 1) sn h (i : Int) true).toNat = kn := by omega
                            refine hv_aload_n C 0 1 dX12_paid_142 rfl rfl ?_
                            refine hv_iload C 5 6 dX12_paid_143 rfl ?_
                            refine hv_iload C 7 0 dX12_paid_145 rfl ?_
                            refine hv_bipush C dX12_paid_147 (by decide) ?_
                            refine mo_call [.int (iz ((h : Nat) : Int)), .int (iz ((kn : Nat) : Int)), .int (iz 18)] [.int (iz sum2)] C K (k_lineAt l σ h kn 18 hσ (by omega) (by omega) (by omega) (by omega) (by omega)) ck_lineAt (by decide) rfl (Nat.le_of_ble_eq_true rfl) dX12_paid_149 ?_
                            refine hv_nm (fun x9 ex9 => ?_)
                            refine hv_iadd C dX12_paid_152 ?_
                            refine hv_istore C 4 [(4, .int (iz (sum2 + x9))), (7, .int (iz ((kn : Nat) : Int))), (0, .ref a0), (1, .int (iz ((sn : Nat) : Int))), (2, .int (iz a)), (3, .int (iz b)), (5, .int (iz ((h : Nat) : Int))), (6, .int (iz ((i : Nat) : Int)))] dX12_paid_153 (by decide) rfl ?_
                            refine hv_iinc C 6 7 [(6, .int (iz (((i : Nat) : Int) + 1))), (4, .int (iz (sum2 + x9))), (7, .int (iz ((kn : Nat) : Int))), (0, .ref a0), (1, .int (iz ((sn : Nat) : Int))), (2, .int (iz a)), (3, .int (iz b)), (5, .int (iz ((h : Nat) : Int)))] dX12_paid_155 rfl (by decide) rfl ?_
                            refine hv_goto C 77 dX12_paid_158 (by decide) ?_
                            refine hv_loc [3, 4, 5, 6, 1, 7, 0] [(0, .ref a0), (1, .int (iz ((sn : Nat) : Int))), (2, .int (iz a)), (3, .int (iz b)), (4, .int (iz (sum2 + x9))), (5, .int (iz ((h : Nat) : Int))), (6, .int (iz (((i : Nat) : Int) + 1)))] rfl ?_
                            exact ih77 (i + 1) (sum2 + x9) (by omega) (by omega) (by simp only [pd1]; first | (rw [if_neg (by omega)]; omega) | (rw [if_pos (by omega)]; first | (rw [if_pos (by omega)]; omega) | (rw [if_neg (by omega), zq9]; omega)))
                          · skip
                            refine hv_iconst C dX12_paid_138 ?_
                            refine hv_goto C 152 dX12_paid_139 (by decide) ?_
                            refine hv_iadd C dX12_paid_152 ?_
                            refine hv_istore C 4 [(4, .int (iz (sum2 + 0))), (7, .int (iz x8)), (0, .ref a0), (1, .int (iz ((sn : Nat) : Int))), (2, .int (iz a)), (3, .int (iz b)), (5, .int (iz ((h : Nat) : Int))), (6, .int (iz ((i : Nat) : Int)))] dX12_paid_153 (by decide) rfl ?_
                            refine hv_iinc C 6 7 [(6, .int (iz (((i : Nat) : Int) + 1))), (4, .int (iz (sum2 + 0))), (7, .int (iz x8)), (0, .ref a0), (1, .int (iz ((sn : Nat) : Int))), (2, .int (iz a)), (3, .int (iz b)), (5, .int (iz ((h : Nat) : Int)))] dX12_paid_155 rfl (by decide) rfl ?_
                            refine hv_goto C 77 dX12_paid_158 (by decide) ?_
                            refine hv_loc [3, 4, 5, 6, 1, 7, 0] [(0, .ref a0), (1, .int (iz ((sn : Nat) : Int))), (2, .int (iz a)), (3, .int (iz b)), (4, .int (iz (sum2 + 0))), (5, .int (iz ((h : Nat) : Int))), (6, .int (iz (((i : Nat) : Int) + 1)))] rfl ?_
                            exact ih77 (i + 1) (sum2 + 0) (by omega) (by omega) (by simp only [pd1]; first | (rw [if_neg (by omega)]; omega) | (rw [if_pos (by omega)]; first | (rw [if_pos (by omega)]; omega) | (rw [if_neg (by omega), zq9]; omega)))
                        · skip
                          refine hv_goto C 155 dX12_paid_116 (by decide) ?_
                          refine hv_iinc C 6 6 [(6, .int (iz (((i : Nat) : Int) + 1))), (0, .ref a0), (1, .int (iz ((sn : Nat) : Int))), (2, .int (iz a)), (3, .int (iz b)), (4, .int (iz sum2)), (5, .int (iz ((h : Nat) : Int)))] dX12_paid_155 rfl (by decide) rfl ?_
                          refine hv_goto C 77 dX12_paid_158 (by decide) ?_
                          refine hv_loc [1, 2, 3, 4, 5, 6, 0] [(0, .ref a0), (1, .int (iz ((sn : Nat) : Int))), (2, .int (iz a)), (3, .int (iz b)), (4, .int (iz sum2)), (5, .int (iz ((h : Nat) : Int))), (6, .int (iz (((i : Nat) : Int) + 1)))] rfl ?_
                          exact ih77 (i + 1) sum2 (by omega) (by omega) (by simp only [pd1]; first | (rw [if_neg (by omega)]; omega) | (rw [if_pos (by omega)]; first | (rw [if_pos (by omega)]; omega) | (rw [if_neg (by omega), zq9]; omega)))
                  refine hv_loc [1, 2, 3, 4, 5, 6, 0] [(0, .ref a0), (1, .int (iz ((sn : Nat) : Int))), (2, .int (iz a)), (3, .int (iz b)), (4, .int (iz sum)), (5, .int (iz ((h : Nat) : Int))), (6, .int (iz 0))] rfl ?_
                  exact L77 _ 0 sum (Nat.lt_succ_self _) (by omega) (by simp only [pd1]; omega)
                · skip
                  refine hv_goto C 161 dX12_paid_71 (by decide) ?_
                  (try simp only [Int.toNat_natCast] at h42)
                  refine hv_iinc C 5 5 [(5, .int (iz (((h : Nat) : Int) + 1))), (0, .ref a0), (1, .int (iz ((sn : Nat) : Int))), (2, .int (iz a)), (3, .int (iz b)), (4, .int (iz sum))] dX12_paid_161 rfl (by decide) rfl ?_
                  refine hv_goto C 25 dX12_paid_164 (by decide) ?_
                  refine hv_loc [1, 2, 3, 4, 5, 0] [(0, .ref a0), (1, .int (iz ((sn : Nat) : Int))), (2, .int (iz a)), (3, .int (iz b)), (4, .int (iz sum)), (5, .int (iz (((h : Nat) : Int) + 1)))] rfl ?_
                  exact ih25 (h + 1) sum (by omega) (by omega) (by simp only [pd]; first | (rw [if_neg (by omega)]; omega) | (rw [if_pos (by omega)]; have e3 : (σ 1 (280 + 8 * h + 3)).toNat = i := (by omega); rw [e3]; exact hs2))
      refine hv_loc [2, 3, 4, 5, 1, 0] [(0, .ref a0), (1, .int (iz ((sn : Nat) : Int))), (2, .int (iz a)), (3, .int (iz b)), (4, .int (iz 0)), (5, .int (iz 0))] rfl ?_
      exact L25 _ 0 0 (Nat.lt_succ_self _) (by omega) rfl
    · skip
      refine hv_iconst C dX12_paid_17 ?_
      exact mo_iret (Qc := fun _ _ _ _ => True) C hr hlk (by first | exact if_n (by omega) rfl | (refine if_p (by omega) ?_; have e4 : (σ 1 4).toNat = h := (by omega); rw [e4]; simp only [Int.toNat_natCast]; exact hs1)) rfl dX12_paid_18
theorem dX12_owed_0 : decode cX12_owed 0 = .ok (.aload_n 0, 1) := by decide +kernel
theorem dX12_owed_1 : decode cX12_owed 1 = .ok (.iload_n 1, 1) := by decide +kernel
theorem dX12_owed_2 : decode cX12_owed 2 = .ok (.iconst 2, 1) := by decide +kernel
theorem dX12_owed_3 : decode cX12_owed 3 = .ok (.invokevirtual 63, 3) := by decide +kernel
theorem dX12_owed_6 : decode cX12_owed 6 = .ok (.ifCond .eq 11, 3) := by decide +kernel
theorem dX12_owed_9 : decode cX12_owed 9 = .ok (.iload_n 2, 1) := by decide +kernel
theorem dX12_owed_10 : decode cX12_owed 10 = .ok (.iload_n 3, 1) := by decide +kernel
theorem dX12_owed_11 : decode cX12_owed 11 = .ok (.invokestatic 283, 3) := by decide +kernel
theorem dX12_owed_14 : decode cX12_owed 14 = .ok (.ifCond .ne 5, 3) := by decide +kernel
theorem dX12_owed_17 : decode cX12_owed 17 = .ok (.iconst (-1), 1) := by decide +kernel
theorem dX12_owed_18 : decode cX12_owed 18 = .ok (.ireturn, 1) := by decide +kernel
theorem dX12_owed_19 : decode cX12_owed 19 = .ok (.iconst 0, 1) := by decide +kernel
theorem dX12_owed_20 : decode cX12_owed 20 = .ok (.istore 4, 2) := by decide +kernel
theorem dX12_owed_22 : decode cX12_owed 22 = .ok (.iconst 0, 1) := by decide +kernel
theorem dX12_owed_23 : decode cX12_owed 23 = .ok (.istore 5, 2) := by decide +kernel
theorem dX12_owed_25 : decode cX12_owed 25 = .ok (.iload 5, 2) := by decide +kernel
theorem dX12_owed_27 : decode cX12_owed 27 = .ok (.aload_n 0, 1) := by decide +kernel
theorem dX12_owed_28 : decode cX12_owed 28 = .ok (.getfield 7, 3) := by decide +kernel
theorem dX12_owed_31 : decode cX12_owed 31 = .ok (.iconst 4, 1) := by decide +kernel
theorem dX12_owed_32 : decode cX12_owed 32 = .ok (.iaload, 1) := by decide +kernel
theorem dX12_owed_33 : decode cX12_owed 33 = .ok (.if_icmp .ge 109, 3) := by decide +kernel
theorem dX12_owed_36 : decode cX12_owed 36 = .ok (.aload_n 0, 1) := by decide +kernel
theorem dX12_owed_37 : decode cX12_owed 37 = .ok (.iload 5, 2) := by decide +kernel
theorem dX12_owed_39 : decode cX12_owed 39 = .ok (.invokevirtual 213, 3) := by decide +kernel
theorem dX12_owed_42 : decode cX12_owed 42 = .ok (.ifCond .eq 94, 3) := by decide +kernel
theorem dX12_owed_45 : decode cX12_owed 45 = .ok (.aload_n 0, 1) := by decide +kernel
theorem dX12_owed_46 : decode cX12_owed 46 = .ok (.iload 5, 2) := by decide +kernel
theorem dX12_owed_48 : decode cX12_owed 48 = .ok (.iconst 1, 1) := by decide +kernel
theorem dX12_owed_49 : decode cX12_owed 49 = .ok (.invokevirtual 67, 3) := by decide +kernel
theorem dX12_owed_52 : decode cX12_owed 52 = .ok (.iload_n 2, 1) := by decide +kernel
theorem dX12_owed_53 : decode cX12_owed 53 = .ok (.iload_n 3, 1) := by decide +kernel
theorem dX12_owed_54 : decode cX12_owed 54 = .ok (.invokestatic 59, 3) := by decide +kernel
theorem dX12_owed_57 : decode cX12_owed 57 = .ok (.ifCond .eq 79, 3) := by decide +kernel
theorem dX12_owed_60 : decode cX12_owed 60 = .ok (.aload_n 0, 1) := by decide +kernel
theorem dX12_owed_61 : decode cX12_owed 61 = .ok (.iload 5, 2) := by decide +kernel
theorem dX12_owed_63 : decode cX12_owed 63 = .ok (.bipush 6, 2) := by decide +kernel
theorem dX12_owed_65 : decode cX12_owed 65 = .ok (.invokevirtual 67, 3) := by decide +kernel
theorem dX12_owed_68 : decode cX12_owed 68 = .ok (.iload_n 1, 1) := by decide +kernel
theorem dX12_owed_69 : decode cX12_owed 69 = .ok (.ishr, 1) := by decide +kernel
theorem dX12_owed_70 : decode cX12_owed 70 = .ok (.iconst 1, 1) := by decide +kernel
theorem dX12_owed_71 : decode cX12_owed 71 = .ok (.iand, 1) := by decide +kernel
theorem dX12_owed_72 : decode cX12_owed 72 = .ok (.ifCond .ne 6, 3) := by decide +kernel
theorem dX12_owed_75 : decode cX12_owed 75 = .ok (.goto 61, 3) := by decide +kernel
theorem dX12_owed_78 : decode cX12_owed 78 = .ok (.iconst 0, 1) := by decide +kernel
theorem dX12_owed_79 : decode cX12_owed 79 = .ok (.istore 6, 2) := by decide +kernel
theorem dX12_owed_81 : decode cX12_owed 81 = .ok (.iload 6, 2) := by decide +kernel
theorem dX12_owed_83 : decode cX12_owed 83 = .ok (.aload_n 0, 1) := by decide +kernel
theorem dX12_owed_84 : decode cX12_owed 84 = .ok (.iload 5, 2) := by decide +kernel
theorem dX12_owed_86 : decode cX12_owed 86 = .ok (.iconst 3, 1) := by decide +kernel
theorem dX12_owed_87 : decode cX12_owed 87 = .ok (.invokevirtual 67, 3) := by decide +kernel
theorem dX12_owed_90 : decode cX12_owed 90 = .ok (.if_icmp .ge 46, 3) := by decide +kernel
theorem dX12_owed_93 : decode cX12_owed 93 = .ok (.iload 4, 2) := by decide +kernel
theorem dX12_owed_95 : decode cX12_owed 95 = .ok (.aload_n 0, 1) := by decide +kernel
theorem dX12_owed_96 : decode cX12_owed 96 = .ok (.iload_n 1, 1) := by decide +kernel
theorem dX12_owed_97 : decode cX12_owed 97 = .ok (.aload_n 0, 1) := by decide +kernel
theorem dX12_owed_98 : decode cX12_owed 98 = .ok (.iload 5, 2) := by decide +kernel
theorem dX12_owed_100 : decode cX12_owed 100 = .ok (.iconst 1, 1) := by decide +kernel
theorem dX12_owed_101 : decode cX12_owed 101 = .ok (.invokevirtual 67, 3) := by decide +kernel
theorem dX12_owed_104 : decode cX12_owed 104 = .ok (.aload_n 0, 1) := by decide +kernel
theorem dX12_owed_105 : decode cX12_owed 105 = .ok (.iload 5, 2) := by decide +kernel
theorem dX12_owed_107 : decode cX12_owed 107 = .ok (.iconst 2, 1) := by decide +kernel
theorem dX12_owed_108 : decode cX12_owed 108 = .ok (.invokevirtual 67, 3) := by decide +kernel
theorem dX12_owed_111 : decode cX12_owed 111 = .ok (.iload 6, 2) := by decide +kernel
theorem dX12_owed_113 : decode cX12_owed 113 = .ok (.iadd, 1) := by decide +kernel
theorem dX12_owed_114 : decode cX12_owed 114 = .ok (.invokevirtual 228, 3) := by decide +kernel
theorem dX12_owed_117 : decode cX12_owed 117 = .ok (.iload 5, 2) := by decide +kernel
theorem dX12_owed_119 : decode cX12_owed 119 = .ok (.if_icmp .eq 7, 3) := by decide +kernel
theorem dX12_owed_122 : decode cX12_owed 122 = .ok (.iconst 1, 1) := by decide +kernel
theorem dX12_owed_123 : decode cX12_owed 123 = .ok (.goto 4, 3) := by decide +kernel
theorem dX12_owed_126 : decode cX12_owed 126 = .ok (.iconst 0, 1) := by decide +kernel
theorem dX12_owed_127 : decode cX12_owed 127 = .ok (.iadd, 1) := by decide +kernel
theorem dX12_owed_128 : decode cX12_owed 128 = .ok (.istore 4, 2) := by decide +kernel
theorem dX12_owed_130 : decode cX12_owed 130 = .ok (.iinc 6 1, 3) := by decide +kernel
theorem dX12_owed_133 : decode cX12_owed 133 = .ok (.goto (-52), 3) := by decide +kernel
theorem dX12_owed_136 : decode cX12_owed 136 = .ok (.iinc 5 1, 3) := by decide +kernel
theorem dX12_owed_139 : decode cX12_owed 139 = .ok (.goto (-114), 3) := by decide +kernel
theorem dX12_owed_142 : decode cX12_owed 142 = .ok (.iload 4, 2) := by decide +kernel
theorem dX12_owed_144 : decode cX12_owed 144 = .ok (.ireturn, 1) := by decide +kernel
set_option maxRecDepth 100000 in
set_option maxHeartbeats 4000000 in
theorem k_owed (l : Launch) {D : va_G} {cI cZ : ClassId} {a0 : Nat} (σ : Nat → Nat → Int) (st : Int) (a : Int) (b : Int) (hσ : rg σ) (hc : cn (σ 1)) (hs : si (σ 1)) (hh : hi (σ 1)) (hl : li (σ 1)) (r_st : inI st) (r_a : inI a) (r_b : inI b) : moM l D cI cZ a0 yX12_owed cX12_owed 7 (some .int) 8 202 [.ref a0, .int (iz st), .int (iz a), .int (iz b)] σ (some (.int (iz (if (0 ≤ st ∧ st ≤ σ 1 2 - 1) ∧ ((0 ≤ a ∧ a ≤ 199) ∧ (a ≤ b ∧ b ≤ 199)) then od (σ 1) st.toNat a b (σ 1 4).toNat else -1)))) (σ) := by
  refine mo_start (by decide) rfl (Nat.le_of_ble_eq_true rfl) ?_
  intro p e s m args below meth c C K hr hlk
  refine hv_aload_n C 0 0 dX12_owed_0 rfl rfl ?_
  refine hv_iload_n C 1 1 dX12_owed_1 rfl rfl ?_
  refine hv_iconst C dX12_owed_2 ?_
  refine mo_call [.int (iz st), .int (iz 2)] [] C K (k_isOf l σ st 2 hσ (by omega) (by omega) (by omega)) ck_isOf (by decide) rfl (Nat.le_of_ble_eq_true rfl) dX12_owed_3 ?_
  refine hv_dif_eq C 17 dX12_owed_6 (by decide)  (fun h6 => ?_) (fun h6 => ?_)
  · skip
    refine hv_iconst C dX12_owed_17 ?_
    exact mo_iret (Qc := fun _ _ _ _ => True) C hr hlk (by first | exact if_n (by omega) rfl | (refine if_p (by omega) ?_; have e4 : (σ 1 4).toNat = h := (by omega); rw [e4]; simp only [Int.toNat_natCast]; exact hs1)) rfl dX12_owed_18
  · skip
    refine hv_iload_n C 2 2 dX12_owed_9 rfl rfl ?_
    refine hv_iload_n C 3 3 dX12_owed_10 rfl rfl ?_
    refine mo_callS [.int (iz a), .int (iz b)] [] C K (k_areDays l σ a b (by omega) (by omega)) ck_areDays (by decide) rfl (Nat.le_of_ble_eq_true rfl) dX12_owed_11 ?_
    refine hv_dif_ne C 19 dX12_owed_14 (by decide)  (fun h14 => ?_) (fun h14 => ?_)
    · skip
      obtain ⟨sn, rfl⟩ : ∃ n : Nat, st = (n : Int) := ⟨(st).toNat, by omega⟩
      refine hv_iconst C dX12_owed_19 ?_
      refine hv_istore C 4 [(4, .int (iz 0)), (0, .ref a0), (1, .int (iz ((sn : Nat) : Int))), (2, .int (iz a)), (3, .int (iz b))] dX12_owed_20 (by decide) rfl ?_
      refine hv_iconst C dX12_owed_22 ?_
      refine hv_istore C 5 [(5, .int (iz 0)), (4, .int (iz 0)), (0, .ref a0), (1, .int (iz ((sn : Nat) : Int))), (2, .int (iz a)), (3, .int (iz b))] dX12_owed_23 (by decide) rfl ?_
      have L25 : ∀ (f : Nat) (h : Nat) (sum : Int), (σ 1 4).toNat - h < f → (h : Int) ≤ σ 1 4 → sum = od (σ 1) sn a b h → hvV p l e { frames := 8, cells := 0, slots := 0, locals := 202 } s m args below meth c 7 (moR a0) 0 0 (MQ below (moQ D cI cZ a0 (some (.int (iz (if (0 ≤ ((sn : Nat) : Int) ∧ ((sn : Nat) : Int) ≤ σ 1 2 - 1) ∧ ((0 ≤ a ∧ a ≤ 199) ∧ (a ≤ b ∧ b ≤ 199)) then od (σ 1) ((sn : Nat) : Int).toNat a b (σ 1 4).toNat else -1)))) (σ)) args s 0 0 (moR a0)) (moI D cI cZ a0 s.heap σ) 25 [(0, .ref a0), (1, .int (iz ((sn : Nat) : Int))), (2, .int (iz a)), (3, .int (iz b)), (4, .int (iz sum)), (5, .int (iz ((h : Nat) : Int)))] [] := by
        intro f
        induction f with
        | zero => intro _ _ hm; exact absurd hm (Nat.not_lt_zero _)
        | succ f ih25 =>
          intro h sum hm25 hh0 hs1
          refine hv_iload C 5 5 dX12_owed_25 rfl ?_
          refine hv_aload_n C 0 0 dX12_owed_27 rfl rfl ?_
          refine mo_geta C K 0 1 (by decide) rfl mo_hw fl_7 rfl dX12_owed_28 ?_
          refine hv_iconst C dX12_owed_31 ?_
          refine mo_iald C K 1 9040 4 rfl (by omega) (by omega) (by decide) dX12_owed_32 ?_
          refine hv_nm (fun x1 ex1 => ?_)
          have rx1 : inI x1 := by rw [ex1]; exact hσ 1 4
          refine hv_icmp_ge C 142 dX12_owed_33 (by decide) (by omega) (by omega) (fun h33 => ?_) (fun h33 => ?_)
          · skip
            refine hv_iload C 4 4 dX12_owed_142 rfl ?_
            exact mo_iret (Qc := fun _ _ _ _ => True) C hr hlk (by first | exact if_n (by omega) rfl | (refine if_p (by omega) ?_; have e4 : (σ 1 4).toNat = h := (by omega); rw [e4]; simp only [Int.toNat_natCast]; exact hs1)) rfl dX12_owed_144
          · skip
            have a2 := hh h (by omega)
            refine hv_aload_n C 0 0 dX12_owed_36 rfl rfl ?_
            refine hv_iload C 5 5 dX12_owed_37 rfl ?_
            refine mo_call [.int (iz ((h : Nat) : Int))] [] C K (k_isHour l σ ((h : Nat) : Int) hσ (by omega) (by omega)) ck_isHour (by decide) rfl (Nat.le_of_ble_eq_true rfl) dX12_owed_39 ?_
            refine hv_dif_eq C 136 dX12_owed_42 (by decide)  (fun h42 => ?_) (fun h42 => ?_)
            · skip
              (try simp only [Int.toNat_natCast] at h42)
              refine hv_iinc C 5 5 [(5, .int (iz (((h : Nat) : Int) + 1))), (0, .ref a0), (1, .int (iz ((sn : Nat) : Int))), (2, .int (iz a)), (3, .int (iz b)), (4, .int (iz sum))] dX12_owed_136 rfl (by decide) rfl ?_
              refine hv_goto C 25 dX12_owed_139 (by decide) ?_
              refine hv_loc [1, 2, 3, 4, 5, 0] [(0, .ref a0), (1, .int (iz ((sn : Nat) : Int))), (2, .int (iz a)), (3, .int (iz b)), (4, .int (iz sum)), (5, .int (iz (((h : Nat) : Int) + 1)))] rfl ?_
              exact ih25 (h + 1) sum (by omega) (by omega) (by simp only [od]; first | (rw [if_neg (by omega)]; omega) | (rw [if_pos (by omega)]; have e3 : (σ 1 (280 + 8 * h + 3)).toNat = i := (by omega); rw [e3]; exact hs2))
            · skip
              (try simp only [Int.toNat_natCast] at h42)
              refine hv_aload_n C 0 0 dX12_owed_45 rfl rfl ?_
              refine hv_iload C 5 5 dX12_owed_46 rfl ?_
              refine hv_iconst C dX12_owed_48 ?_
              refine mo_call [.int (iz ((h : Nat) : Int)), .int (iz 1)] [] C K (k_hourOf l σ h 1 (by omega) (by omega)) ck_hourOf (by decide) rfl (Nat.le_of_ble_eq_true rfl) dX12_owed_49 ?_
              refine hv_nm (fun x2 ex2 => ?_)
              have rx2 : inI x2 := by rw [ex2]; exact hσ _ _
              refine hv_iload_n C 2 2 dX12_owed_52 rfl rfl ?_
              refine hv_iload_n C 3 3 dX12_owed_53 rfl rfl ?_
              refine mo_callS [.int (iz x2), .int (iz a), .int (iz b)] [] C K (k_isIn l σ x2 a b (by omega) (by omega) (by omega)) ck_isIn (by decide) rfl (Nat.le_of_ble_eq_true rfl) dX12_owed_54 ?_
              refine hv_dif_eq C 136 dX12_owed_57 (by decide)  (fun h57 => ?_) (fun h57 => ?_)
              · skip
                (try simp only [Int.toNat_natCast] at h42)
                refine hv_iinc C 5 5 [(5, .int (iz (((h : Nat) : Int) + 1))), (0, .ref a0), (1, .int (iz ((sn : Nat) : Int))), (2, .int (iz a)), (3, .int (iz b)), (4, .int (iz sum))] dX12_owed_136 rfl (by decide) rfl ?_
                refine hv_goto C 25 dX12_owed_139 (by decide) ?_
                refine hv_loc [1, 2, 3, 4, 5, 0] [(0, .ref a0), (1, .int (iz ((sn : Nat) : Int))), (2, .int (iz a)), (3, .int (iz b)), (4, .int (iz sum)), (5, .int (iz (((h : Nat) : Int) + 1)))] rfl ?_
                exact ih25 (h + 1) sum (by omega) (by omega) (by simp only [od]; first | (rw [if_neg (by omega)]; omega) | (rw [if_pos (by omega)]; have e3 : (σ 1 (280 + 8 * h + 3)).toNat = i := (by omega); rw [e3]; exact hs2))
              · skip
                refine hv_aload_n C 0 0 dX12_owed_60 rfl rfl ?_
                refine hv_iload C 5 5 dX12_owed_61 rfl ?_
                refine hv_bipush C dX12_owed_63 (by decide) ?_
                refine mo_call [.int (iz ((h : Nat) : Int)), .int (iz 6)] [] C K (k_hourOf l σ h 6 (by omega) (by omega)) ck_hourOf (by decide) rfl (Nat.le_of_ble_eq_true rfl) dX12_owed_65 ?_
                refine hv_nm (fun x3 ex3 => ?_)
                have rx3 : inI x3 := by rw [ex3]; exact hσ _ _
                refine hv_iload_n C 1 1 dX12_owed_68 rfl rfl ?_
                refine hv_ishr C sn (by omega) (by omega) (by omega) dX12_owed_69 ?_
                refine hv_iconst C dX12_owed_70 ?_
                refine hv_imsk C 1 (by decide) (by decide) dX12_owed_71 ?_
                have eb : ((x3 / 2 ^ sn) % 2 ^ 1) = σ 1 (280 + 8 * h + 6) / 2 ^ sn % 2 ^ 1 := by subst_vars; rfl
                refine hv_if_ne C 78 dX12_owed_72 (by decide) (by omega) (fun h72 => ?_) (fun h72 => ?_)
                · skip
                  refine hv_iconst C dX12_owed_78 ?_
                  refine hv_istore C 6 [(6, .int (iz 0)), (0, .ref a0), (1, .int (iz ((sn : Nat) : Int))), (2, .int (iz a)), (3, .int (iz b)), (4, .int (iz sum)), (5, .int (iz ((h : Nat) : Int)))] dX12_owed_79 (by decide) rfl ?_
                  have L81 : ∀ (f : Nat) (i : Nat) (sum2 : Int), (σ 1 (280 + 8 * h + 3)).toNat - i < f → (i : Int) ≤ σ 1 (280 + 8 * h + 3) → sum2 = od (σ 1) sn a b h + od1 (σ 1) sn h i → hvV p l e { frames := 8, cells := 0, slots := 0, locals := 202 } s m args below meth c 7 (moR a0) 0 0 (MQ below (moQ D cI cZ a0 (some (.int (iz (if (0 ≤ ((sn : Nat) : Int) ∧ ((sn : Nat) : Int) ≤ σ 1 2 - 1) ∧ ((0 ≤ a ∧ a ≤ 199) ∧ (a ≤ b ∧ b ≤ 199)) then od (σ 1) ((sn : Nat) : Int).toNat a b (σ 1 4).toNat else -1)))) (σ)) args s 0 0 (moR a0)) (moI D cI cZ a0 s.heap σ) 81 [(0, .ref a0), (1, .int (iz ((sn : Nat) : Int))), (2, .int (iz a)), (3, .int (iz b)), (4, .int (iz sum2)), (5, .int (iz ((h : Nat) : Int))), (6, .int (iz ((i : Nat) : Int)))] [] := by
                    intro f
                    induction f with
                    | zero => intro _ _ hm; exact absurd hm (Nat.not_lt_zero _)
                    | succ f ih81 =>
                      intro i sum2 hm81 hi0 hs2
                      refine hv_iload C 6 6 dX12_owed_81 rfl ?_
                      refine hv_aload_n C 0 0 dX12_owed_83 rfl rfl ?_
                      refine hv_iload C 5 5 dX12_owed_84 rfl ?_
                      refine hv_iconst C dX12_owed_86 ?_
                      refine mo_call [.int (iz ((h : Nat) : Int)), .int (iz 3)] [.int (iz ((i : Nat) : Int))] C K (k_hourOf l σ h 3 (by omega) (by omega)) ck_hourOf (by decide) rfl (Nat.le_of_ble_eq_true rfl) dX12_owed_87 ?_
                      refine hv_nm (fun x4 ex4 => ?_)
                      have rx4 : inI x4 := by rw [ex4]; exact hσ _ _
                      refine hv_icmp_ge C 136 dX12_owed_90 (by decide) (by omega) (by omega) (fun h90 => ?_) (fun h90 => ?_)
                      · skip
                        (try simp only [Int.toNat_natCast] at h42)
                        refine hv_iinc C 5 5 [(5, .int (iz (((h : Nat) : Int) + 1))), (0, .ref a0), (1, .int (iz ((sn : Nat) : Int))), (2, .int (iz a)), (3, .int (iz b)), (4, .int (iz sum2)), (6, .int (iz ((i : Nat) : Int)))] dX12_owed_136 rfl (by decide) rfl ?_
                        refine hv_goto C 25 dX12_owed_139 (by decide) ?_
                        refine hv_loc [1, 2, 3, 4, 5, 0] [(0, .ref a0), (1, .int (iz ((sn : Nat) : Int))), (2, .int (iz a)), (3, .int (iz b)), (4, .int (iz sum2)), (5, .int (iz (((h : Nat) : Int) + 1)))] rfl ?_
                        exact ih25 (h + 1) sum2 (by omega) (by omega) (by simp only [od]; first | (rw [if_neg (by omega)]; omega) | (rw [if_pos (by omega)]; have e3 : (σ 1 (280 + 8 * h + 3)).toNat = i := (by omega); rw [e3]; exact hs2))
                      · skip
                        refine hv_iload C 4 4 dX12_owed_93 rfl ?_
                        refine hv_aload_n C 0 0 dX12_owed_95 rfl rfl ?_
                        refine hv_iload_n C 1 1 dX12_owed_96 rfl rfl ?_
                        refine hv_aload_n C 0 0 dX12_owed_97 rfl rfl ?_
                        refine hv_iload C 5 5 dX12_owed_98 rfl ?_
                        refine hv_iconst C dX12_owed_100 ?_
                        refine mo_call [.int (iz ((h : Nat) : Int)), .int (iz 1)] [.int (iz ((sn : Nat) : Int)), .ref a0, .int (iz sum2)] C K (k_hourOf l σ h 1 (by omega) (by omega)) ck_hourOf (by decide) rfl (Nat.le_of_ble_eq_true rfl) dX12_owed_101 ?_
                        refine hv_nm (fun x5 ex5 => ?_)
                        have rx5 : inI x5 := by rw [ex5]; exact hσ _ _
                        refine hv_aload_n C 0 0 dX12_owed_104 rfl rfl ?_
                        refine hv_iload C 5 5 dX12_owed_105 rfl ?_
                        refine hv_iconst C dX12_owed_107 ?_
                        refine mo_call [.int (iz ((h : Nat) : Int)), .int (iz 2)] [.int (iz x5), .int (iz ((sn : Nat) : Int)), .ref a0, .int (iz sum2)] C K (k_hourOf l σ h 2 (by omega) (by omega)) ck_hourOf (by decide) rfl (Nat.le_of_ble_eq_true rfl) dX12_owed_108 ?_
                        refine hv_nm (fun x6 ex6 => ?_)
                        have rx6 : inI x6 := by rw [ex6]; exact hσ _ _
                        refine hv_iload C 6 6 dX12_owed_111 rfl ?_
                        refine hv_iadd C dX12_owed_113 ?_
                        refine mo_call [.int (iz ((sn : Nat) : Int)), .int (iz x5), .int (iz (x6 + ((i : Nat) : Int)))] [.int (iz sum2)] C K (k_sendsOf l σ sn x5 (x6 + ((i : Nat) : Int)) hσ (by omega) (by omega) (by omega) (by omega) (by omega) (by omega) (by omega)) ck_sendsOf (by decide) rfl (Nat.le_of_ble_eq_true rfl) dX12_owed_114 ?_
                        refine hv_nm (fun x7 ex7 => ?_)
                        have rx7 : inI x7 := by rw [ex7]; exact sd_in hc _ _ _
                        have es : x7 = sd (σ 1) sn (σ 1 (280 + 8 * h + 1)) (σ 1 (280 + 8 * h + 2) + (i : Int)) := by subst_vars; rfl
                        refine hv_iload C 5 5 dX12_owed_117 rfl ?_
                        refine hv_icmp_eq C 126 dX12_owed_119 (by decide) (by omega) (by omega) (fun h119 => ?_) (fun h119 => ?_)
                        · skip
                          refine hv_iconst C dX12_owed_126 ?_
                          refine hv_iadd C dX12_owed_127 ?_
                          refine hv_istore C 4 [(4, .int (iz (sum2 + 0))), (0, .ref a0), (1, .int (iz ((sn : Nat) : Int))), (2, .int (iz a)), (3, .int (iz b)), (5, .int (iz ((h : Nat) : Int))), (6, .int (iz ((i : Nat) : Int)))] dX12_owed_128 (by decide) rfl ?_
                          refine hv_iinc C 6 6 [(6, .int (iz (((i : Nat) : Int) + 1))), (4, .int (iz (sum2 + 0))), (0, .ref a0), (1, .int (iz ((sn : Nat) : Int))), (2, .int (iz a)), (3, .int (iz b)), (5, .int (iz ((h : Nat) : Int)))] dX12_owed_130 rfl (by decide) rfl ?_
                          refine hv_goto C 81 dX12_owed_133 (by decide) ?_
                          refine hv_loc [2, 3, 4, 5, 1, 6, 0] [(0, .ref a0), (1, .int (iz ((sn : Nat) : Int))), (2, .int (iz a)), (3, .int (iz b)), (4, .int (iz (sum2 + 0))), (5, .int (iz ((h : Nat) : Int))), (6, .int (iz (((i : Nat) : Int) + 1)))] rfl ?_
                          exact ih81 (i + 1) (sum2 + 0) (by omega) (by omega) (by simp only [od1]; first | (rw [if_neg (by omega)]; omega) | (rw [if_pos (by omega)]; omega))
                        · skip
                          refine hv_iconst C dX12_owed_122 ?_
                          refine hv_goto C 127 dX12_owed_123 (by decide) ?_
                          refine hv_iadd C dX12_owed_127 ?_
                          refine hv_istore C 4 [(4, .int (iz (sum2 + 1))), (0, .ref a0), (1, .int (iz ((sn : Nat) : Int))), (2, .int (iz a)), (3, .int (iz b)), (5, .int (iz ((h : Nat) : Int))), (6, .int (iz ((i : Nat) : Int)))] dX12_owed_128 (by decide) rfl ?_
                          refine hv_iinc C 6 6 [(6, .int (iz (((i : Nat) : Int) + 1))), (4, .int (iz (sum2 + 1))), (0, .ref a0), (1, .int (iz ((sn : Nat) : Int))), (2, .int (iz a)), (3, .int (iz b)), (5, .int (iz ((h : Nat) : Int)))] dX12_owed_130 rfl (by decide) rfl ?_
                          refine hv_goto C 81 dX12_owed_133 (by decide) ?_
                          refine hv_loc [2, 3, 4, 5, 1, 6, 0] [(0, .ref a0), (1, .int (iz ((sn : Nat) : Int))), (2, .int (iz a)), (3, .int (iz b)), (4, .int (iz (sum2 + 1))), (5, .int (iz ((h : Nat) : Int))), (6, .int (iz (((i : Nat) : Int) + 1)))] rfl ?_
                          exact ih81 (i + 1) (sum2 + 1) (by omega) (by omega) (by simp only [od1]; first | (rw [if_neg (by omega)]; omega) | (rw [if_pos (by omega)]; omega))
                  refine hv_loc [1, 2, 3, 4, 5, 6, 0] [(0, .ref a0), (1, .int (iz ((sn : Nat) : Int))), (2, .int (iz a)), (3, .int (iz b)), (4, .int (iz sum)), (5, .int (iz ((h : Nat) : Int))), (6, .int (iz 0))] rfl ?_
                  exact L81 _ 0 sum (Nat.lt_succ_self _) (by omega) (by simp only [od1]; omega)
                · skip
                  refine hv_goto C 136 dX12_owed_75 (by decide) ?_
                  (try simp only [Int.toNat_natCast] at h42)
                  refine hv_iinc C 5 5 [(5, .int (iz (((h : Nat) : Int) + 1))), (0, .ref a0), (1, .int (iz ((sn : Nat) : Int))), (2, .int (iz a)), (3, .int (iz b)), (4, .int (iz sum))] dX12_owed_136 rfl (by decide) rfl ?_
                  refine hv_goto C 25 dX12_owed_139 (by decide) ?_
                  refine hv_loc [1, 2, 3, 4, 5, 0] [(0, .ref a0), (1, .int (iz ((sn : Nat) : Int))), (2, .int (iz a)), (3, .int (iz b)), (4, .int (iz sum)), (5, .int (iz (((h : Nat) : Int) + 1)))] rfl ?_
                  exact ih25 (h + 1) sum (by omega) (by omega) (by simp only [od]; first | (rw [if_neg (by omega)]; omega) | (rw [if_pos (by omega)]; have e3 : (σ 1 (280 + 8 * h + 3)).toNat = i := (by omega); rw [e3]; exact hs2))
      refine hv_loc [2, 3, 4, 5, 1, 0] [(0, .ref a0), (1, .int (iz ((sn : Nat) : Int))), (2, .int (iz a)), (3, .int (iz b)), (4, .int (iz 0)), (5, .int (iz 0))] rfl ?_
      exact L25 _ 0 0 (Nat.lt_succ_self _) (by omega) rfl
    · skip
      refine hv_iconst C dX12_owed_17 ?_
      exact mo_iret (Qc := fun _ _ _ _ => True) C hr hlk (by first | exact if_n (by omega) rfl | (refine if_p (by omega) ?_; have e4 : (σ 1 4).toNat = h := (by omega); rw [e4]; simp only [Int.toNat_natCast]; exact hs1)) rfl dX12_owed_18
theorem dX12_lost_0 : decode cX12_lost 0 = .ok (.aload_n 0, 1) := by decide +kernel
theorem dX12_lost_1 : decode cX12_lost 1 = .ok (.iload_n 1, 1) := by decide +kernel
theorem dX12_lost_2 : decode cX12_lost 2 = .ok (.iconst 2, 1) := by decide +kernel
theorem dX12_lost_3 : decode cX12_lost 3 = .ok (.invokevirtual 63, 3) := by decide +kernel
theorem dX12_lost_6 : decode cX12_lost 6 = .ok (.ifCond .ne 5, 3) := by decide +kernel
theorem dX12_lost_9 : decode cX12_lost 9 = .ok (.iconst (-1), 1) := by decide +kernel
theorem dX12_lost_10 : decode cX12_lost 10 = .ok (.ireturn, 1) := by decide +kernel
theorem dX12_lost_11 : decode cX12_lost 11 = .ok (.iconst 0, 1) := by decide +kernel
theorem dX12_lost_12 : decode cX12_lost 12 = .ok (.istore_n 3, 1) := by decide +kernel
theorem dX12_lost_13 : decode cX12_lost 13 = .ok (.iconst 0, 1) := by decide +kernel
theorem dX12_lost_14 : decode cX12_lost 14 = .ok (.istore 4, 2) := by decide +kernel
theorem dX12_lost_16 : decode cX12_lost 16 = .ok (.iload 4, 2) := by decide +kernel
theorem dX12_lost_18 : decode cX12_lost 18 = .ok (.aload_n 0, 1) := by decide +kernel
theorem dX12_lost_19 : decode cX12_lost 19 = .ok (.getfield 7, 3) := by decide +kernel
theorem dX12_lost_22 : decode cX12_lost 22 = .ok (.iconst 4, 1) := by decide +kernel
theorem dX12_lost_23 : decode cX12_lost 23 = .ok (.iaload, 1) := by decide +kernel
theorem dX12_lost_24 : decode cX12_lost 24 = .ok (.if_icmp .ge 69, 3) := by decide +kernel
theorem dX12_lost_27 : decode cX12_lost 27 = .ok (.aload_n 0, 1) := by decide +kernel
theorem dX12_lost_28 : decode cX12_lost 28 = .ok (.iload 4, 2) := by decide +kernel
theorem dX12_lost_30 : decode cX12_lost 30 = .ok (.invokevirtual 213, 3) := by decide +kernel
theorem dX12_lost_33 : decode cX12_lost 33 = .ok (.ifCond .eq 54, 3) := by decide +kernel
theorem dX12_lost_36 : decode cX12_lost 36 = .ok (.aload_n 0, 1) := by decide +kernel
theorem dX12_lost_37 : decode cX12_lost 37 = .ok (.iload 4, 2) := by decide +kernel
theorem dX12_lost_39 : decode cX12_lost 39 = .ok (.bipush 6, 2) := by decide +kernel
theorem dX12_lost_41 : decode cX12_lost 41 = .ok (.invokevirtual 67, 3) := by decide +kernel
theorem dX12_lost_44 : decode cX12_lost 44 = .ok (.iload_n 1, 1) := by decide +kernel
theorem dX12_lost_45 : decode cX12_lost 45 = .ok (.ishr, 1) := by decide +kernel
theorem dX12_lost_46 : decode cX12_lost 46 = .ok (.iconst 1, 1) := by decide +kernel
theorem dX12_lost_47 : decode cX12_lost 47 = .ok (.iand, 1) := by decide +kernel
theorem dX12_lost_48 : decode cX12_lost 48 = .ok (.ifCond .eq 39, 3) := by decide +kernel
theorem dX12_lost_51 : decode cX12_lost 51 = .ok (.aload_n 0, 1) := by decide +kernel
theorem dX12_lost_52 : decode cX12_lost 52 = .ok (.iload_n 1, 1) := by decide +kernel
theorem dX12_lost_53 : decode cX12_lost 53 = .ok (.aload_n 0, 1) := by decide +kernel
theorem dX12_lost_54 : decode cX12_lost 54 = .ok (.iload 4, 2) := by decide +kernel
theorem dX12_lost_56 : decode cX12_lost 56 = .ok (.iconst 1, 1) := by decide +kernel
theorem dX12_lost_57 : decode cX12_lost 57 = .ok (.invokevirtual 67, 3) := by decide +kernel
theorem dX12_lost_60 : decode cX12_lost 60 = .ok (.invokevirtual 88, 3) := by decide +kernel
theorem dX12_lost_63 : decode cX12_lost 63 = .ok (.aload_n 0, 1) := by decide +kernel
theorem dX12_lost_64 : decode cX12_lost 64 = .ok (.iload 4, 2) := by decide +kernel
theorem dX12_lost_66 : decode cX12_lost 66 = .ok (.iconst 0, 1) := by decide +kernel
theorem dX12_lost_67 : decode cX12_lost 67 = .ok (.invokevirtual 67, 3) := by decide +kernel
theorem dX12_lost_70 : decode cX12_lost 70 = .ok (.if_icmp .ne 6, 3) := by decide +kernel
theorem dX12_lost_73 : decode cX12_lost 73 = .ok (.goto 14, 3) := by decide +kernel
theorem dX12_lost_76 : decode cX12_lost 76 = .ok (.iload_n 3, 1) := by decide +kernel
theorem dX12_lost_77 : decode cX12_lost 77 = .ok (.iload_n 2, 1) := by decide +kernel
theorem dX12_lost_78 : decode cX12_lost 78 = .ok (.if_icmp .ne 6, 3) := by decide +kernel
theorem dX12_lost_81 : decode cX12_lost 81 = .ok (.iload 4, 2) := by decide +kernel
theorem dX12_lost_83 : decode cX12_lost 83 = .ok (.ireturn, 1) := by decide +kernel
theorem dX12_lost_84 : decode cX12_lost 84 = .ok (.iinc 3 1, 3) := by decide +kernel
theorem dX12_lost_87 : decode cX12_lost 87 = .ok (.iinc 4 1, 3) := by decide +kernel
theorem dX12_lost_90 : decode cX12_lost 90 = .ok (.goto (-74), 3) := by decide +kernel
theorem dX12_lost_93 : decode cX12_lost 93 = .ok (.iconst (-1), 1) := by decide +kernel
theorem dX12_lost_94 : decode cX12_lost 94 = .ok (.ireturn, 1) := by decide +kernel
set_option maxRecDepth 100000 in
set_option maxHeartbeats 4000000 in
theorem k_lost (l : Launch) {D : va_G} {cI cZ : ClassId} {a0 : Nat} (σ : Nat → Nat → Int) (st : Int) (k : Int) (hσ : rg σ) (hc : cn (σ 1)) (hs : si (σ 1)) (hh : hi (σ 1)) (hl : li (σ 1)) (r_st : inI st) (r_k : inI k) : moM l D cI cZ a0 yX12_lost cX12_lost 5 (some .int) 3 65 [.ref a0, .int (iz st), .int (iz k)] σ (some (.int (iz (if 0 ≤ st ∧ st ≤ σ 1 2 - 1 then lst (σ 1) st.toNat k (σ 1 4).toNat 0 0 else -1)))) (σ) := by
  refine mo_start (by decide) rfl (Nat.le_of_ble_eq_true rfl) ?_
  intro p e s m args below meth c C K hr hlk
  refine hv_aload_n C 0 0 dX12_lost_0 rfl rfl ?_
  refine hv_iload_n C 1 1 dX12_lost_1 rfl rfl ?_
  refine hv_iconst C dX12_lost_2 ?_
  refine mo_call [.int (iz st), .int (iz 2)] [] C K (k_isOf l σ st 2 hσ (by omega) (by omega) (by omega)) ck_isOf (by decide) rfl (Nat.le_of_ble_eq_true rfl) dX12_lost_3 ?_
  refine hv_dif_ne C 11 dX12_lost_6 (by decide)  (fun h6 => ?_) (fun h6 => ?_)
  · skip
    obtain ⟨sn, rfl⟩ : ∃ n : Nat, st = (n : Int) := ⟨(st).toNat, by omega⟩
    refine hv_iconst C dX12_lost_11 ?_
    refine hv_istore_n C 3 [(3, .int (iz 0)), (0, .ref a0), (1, .int (iz ((sn : Nat) : Int))), (2, .int (iz k))] dX12_lost_12 rfl (by decide) rfl ?_
    refine hv_iconst C dX12_lost_13 ?_
    refine hv_istore C 4 [(4, .int (iz 0)), (3, .int (iz 0)), (0, .ref a0), (1, .int (iz ((sn : Nat) : Int))), (2, .int (iz k))] dX12_lost_14 (by decide) rfl ?_
    have L16 : ∀ (f : Nat) (h : Nat) (n : Int), (σ 1 4).toNat - h < f → (h : Int) ≤ σ 1 4 → 0 ≤ n ∧ n ≤ (h : Int) → lst (σ 1) sn k ((σ 1 4).toNat - h) h n = lst (σ 1) sn k (σ 1 4).toNat 0 0 → hvV p l e { frames := 3, cells := 0, slots := 0, locals := 65 } s m args below meth c 5 (moR a0) 0 0 (MQ below (moQ D cI cZ a0 (some (.int (iz (if 0 ≤ ((sn : Nat) : Int) ∧ ((sn : Nat) : Int) ≤ σ 1 2 - 1 then lst (σ 1) ((sn : Nat) : Int).toNat k (σ 1 4).toNat 0 0 else -1)))) (σ)) args s 0 0 (moR a0)) (moI D cI cZ a0 s.heap σ) 16 [(0, .ref a0), (1, .int (iz ((sn : Nat) : Int))), (2, .int (iz k)), (3, .int (iz n)), (4, .int (iz ((h : Nat) : Int)))] [] := by
      intro f
      induction f with
      | zero => intro _ _ hm; exact absurd hm (Nat.not_lt_zero _)
      | succ f ih16 =>
        intro h n hm16 hh0 hn0 hr9
        refine hv_iload C 4 4 dX12_lost_16 rfl ?_
        refine hv_aload_n C 0 0 dX12_lost_18 rfl rfl ?_
        refine mo_geta C K 0 1 (by decide) rfl mo_hw fl_7 rfl dX12_lost_19 ?_
        refine hv_iconst C dX12_lost_22 ?_
        refine mo_iald C K 1 9040 4 rfl (by omega) (by omega) (by decide) dX12_lost_23 ?_
        refine hv_nm (fun x1 ex1 => ?_)
        have rx1 : inI x1 := by rw [ex1]; exact hσ 1 4
        refine hv_icmp_ge C 93 dX12_lost_24 (by decide) (by omega) (by omega) (fun h24 => ?_) (fun h24 => ?_)
        · skip
          refine hv_iconst C dX12_lost_93 ?_
          exact mo_iret (Qc := fun _ _ _ _ => True) C hr hlk (by first | exact if_n (by omega) rfl | (refine if_p (by omega) ?_; simp only [Int.toNat_natCast]; rw [← hr9]; first | (have e8 : (σ 1 4).toNat - h = 0 := (by omega); rw [e8]; rfl) | (have e7 : (σ 1 4).toNat - h = ((σ 1 4).toNat - (h + 1)) + 1 := (by omega); rw [e7, lst]; rw [if_pos (by omega), if_pos (by omega)]))) rfl dX12_lost_94
        · skip
          have a2 := hh h (by omega)
          refine hv_aload_n C 0 0 dX12_lost_27 rfl rfl ?_
          refine hv_iload C 4 4 dX12_lost_28 rfl ?_
          refine mo_call [.int (iz ((h : Nat) : Int))] [] C K (k_isHour l σ ((h : Nat) : Int) hσ (by omega) (by omega)) ck_isHour (by decide) rfl (Nat.le_of_ble_eq_true rfl) dX12_lost_30 ?_
          refine hv_dif_eq C 87 dX12_lost_33 (by decide)  (fun h33 => ?_) (fun h33 => ?_)
          · skip
            (try simp only [Int.toNat_natCast] at h33)
            refine hv_iinc C 4 4 [(4, .int (iz (((h : Nat) : Int) + 1))), (0, .ref a0), (1, .int (iz ((sn : Nat) : Int))), (2, .int (iz k)), (3, .int (iz n))] dX12_lost_87 rfl (by decide) rfl ?_
            refine hv_goto C 16 dX12_lost_90 (by decide) ?_
            refine hv_loc [1, 2, 3, 4, 0] [(0, .ref a0), (1, .int (iz ((sn : Nat) : Int))), (2, .int (iz k)), (3, .int (iz n)), (4, .int (iz (((h : Nat) : Int) + 1)))] rfl ?_
            exact ih16 (h + 1) n (by omega) (by omega) (by omega) (by have e7 : (σ 1 4).toNat - h = ((σ 1 4).toNat - (h + 1)) + 1 := (by omega); rw [e7, lst] at hr9; first | (rw [if_neg (by omega)] at hr9; exact hr9) | (rw [if_pos (by omega), if_neg (by omega)] at hr9; exact hr9))
          · skip
            (try simp only [Int.toNat_natCast] at h33)
            refine hv_aload_n C 0 0 dX12_lost_36 rfl rfl ?_
            refine hv_iload C 4 4 dX12_lost_37 rfl ?_
            refine hv_bipush C dX12_lost_39 (by decide) ?_
            refine mo_call [.int (iz ((h : Nat) : Int)), .int (iz 6)] [] C K (k_hourOf l σ h 6 (by omega) (by omega)) ck_hourOf (by decide) rfl (Nat.le_of_ble_eq_true rfl) dX12_lost_41 ?_
            refine hv_nm (fun x2 ex2 => ?_)
            have rx2 : inI x2 := by rw [ex2]; exact hσ _ _
            refine hv_iload_n C 1 1 dX12_lost_44 rfl rfl ?_
            refine hv_ishr C sn (by omega) (by omega) (by omega) dX12_lost_45 ?_
            refine hv_iconst C dX12_lost_46 ?_
            refine hv_imsk C 1 (by decide) (by decide) dX12_lost_47 ?_
            have eb : ((x2 / 2 ^ sn) % 2 ^ 1) = σ 1 (280 + 8 * h + 6) / 2 ^ sn % 2 ^ 1 := by subst_vars; rfl
            refine hv_if_eq C 87 dX12_lost_48 (by decide) (by omega) (fun h48 => ?_) (fun h48 => ?_)
            · skip
              (try simp only [Int.toNat_natCast] at h33)
              refine hv_iinc C 4 4 [(4, .int (iz (((h : Nat) : Int) + 1))), (0, .ref a0), (1, .int (iz ((sn : Nat) : Int))), (2, .int (iz k)), (3, .int (iz n))] dX12_lost_87 rfl (by decide) rfl ?_
              refine hv_goto C 16 dX12_lost_90 (by decide) ?_
              refine hv_loc [1, 2, 3, 4, 0] [(0, .ref a0), (1, .int (iz ((sn : Nat) : Int))), (2, .int (iz k)), (3, .int (iz n)), (4, .int (iz (((h : Nat) : Int) + 1)))] rfl ?_
              exact ih16 (h + 1) n (by omega) (by omega) (by omega) (by have e7 : (σ 1 4).toNat - h = ((σ 1 4).toNat - (h + 1)) + 1 := (by omega); rw [e7, lst] at hr9; first | (rw [if_neg (by omega)] at hr9; exact hr9) | (rw [if_pos (by omega), if_neg (by omega)] at hr9; exact hr9))
            · skip
              refine hv_aload_n C 0 0 dX12_lost_51 rfl rfl ?_
              refine hv_iload_n C 1 1 dX12_lost_52 rfl rfl ?_
              refine hv_aload_n C 0 0 dX12_lost_53 rfl rfl ?_
              refine hv_iload C 4 4 dX12_lost_54 rfl ?_
              refine hv_iconst C dX12_lost_56 ?_
              refine mo_call [.int (iz ((h : Nat) : Int)), .int (iz 1)] [.int (iz ((sn : Nat) : Int)), .ref a0] C K (k_hourOf l σ h 1 (by omega) (by omega)) ck_hourOf (by decide) rfl (Nat.le_of_ble_eq_true rfl) dX12_lost_57 ?_
              refine hv_nm (fun x3 ex3 => ?_)
              have rx3 : inI x3 := by rw [ex3]; exact hσ _ _
              refine mo_call [.int (iz ((sn : Nat) : Int)), .int (iz x3)] [] C K (k_memberOf l σ ((sn : Nat) : Int) x3 hσ (by omega) (by omega) (by omega)) ck_memberOf (by decide) rfl (Nat.le_of_ble_eq_true rfl) dX12_lost_60 ?_
              refine hv_nm (fun x4 ex4 => ?_)
              have rx4 : inI x4 := by rw [ex4]; exact (by unfold member; exact (mb_in (fun i => hσ 1 i) _ _ _).2)
              have es : x4 = member (σ 1) sn (σ 1 (280 + 8 * h + 1)) := by subst_vars; rfl
              refine hv_aload_n C 0 0 dX12_lost_63 rfl rfl ?_
              refine hv_iload C 4 4 dX12_lost_64 rfl ?_
              refine hv_iconst C dX12_lost_66 ?_
              refine mo_call [.int (iz ((h : Nat) : Int)), .int (iz 0)] [.int (iz x4)] C K (k_hourOf l σ h 0 (by omega) (by omega)) ck_hourOf (by decide) rfl (Nat.le_of_ble_eq_true rfl) dX12_lost_67 ?_
              refine hv_nm (fun x5 ex5 => ?_)
              have rx5 : inI x5 := by rw [ex5]; exact hσ _ _
              refine hv_icmp_ne C 76 dX12_lost_70 (by decide) (by omega) (by omega) (fun h70 => ?_) (fun h70 => ?_)
              · skip
                refine hv_iload_n C 3 3 dX12_lost_76 rfl rfl ?_
                refine hv_iload_n C 2 2 dX12_lost_77 rfl rfl ?_
                refine hv_icmp_ne C 84 dX12_lost_78 (by decide) (by omega) (by omega) (fun h78 => ?_) (fun h78 => ?_)
                · skip
                  refine hv_iinc C 3 3 [(3, .int (iz (n + 1))), (0, .ref a0), (1, .int (iz ((sn : Nat) : Int))), (2, .int (iz k)), (4, .int (iz ((h : Nat) : Int)))] dX12_lost_84 rfl (by decide) rfl ?_
                  (try simp only [Int.toNat_natCast] at h33)
                  refine hv_iinc C 4 4 [(4, .int (iz (((h : Nat) : Int) + 1))), (3, .int (iz (n + 1))), (0, .ref a0), (1, .int (iz ((sn : Nat) : Int))), (2, .int (iz k))] dX12_lost_87 rfl (by decide) rfl ?_
                  refine hv_goto C 16 dX12_lost_90 (by decide) ?_
                  refine hv_loc [2, 3, 4, 1, 0] [(0, .ref a0), (1, .int (iz ((sn : Nat) : Int))), (2, .int (iz k)), (3, .int (iz (n + 1))), (4, .int (iz (((h : Nat) : Int) + 1)))] rfl ?_
                  exact ih16 (h + 1) (n + 1) (by omega) (by omega) (by omega) (by have e7 : (σ 1 4).toNat - h = ((σ 1 4).toNat - (h + 1)) + 1 := (by omega); rw [e7, lst] at hr9; first | (rw [if_neg (by omega)] at hr9; exact hr9) | (rw [if_pos (by omega), if_neg (by omega)] at hr9; exact hr9))
                · skip
                  refine hv_iload C 4 4 dX12_lost_81 rfl ?_
                  exact mo_iret (Qc := fun _ _ _ _ => True) C hr hlk (by first | exact if_n (by omega) rfl | (refine if_p (by omega) ?_; simp only [Int.toNat_natCast]; rw [← hr9]; first | (have e8 : (σ 1 4).toNat - h = 0 := (by omega); rw [e8]; rfl) | (have e7 : (σ 1 4).toNat - h = ((σ 1 4).toNat - (h + 1)) + 1 := (by omega); rw [e7, lst]; rw [if_pos (by omega), if_pos (by omega)]))) rfl dX12_lost_83
              · skip
                refine hv_goto C 87 dX12_lost_73 (by decide) ?_
                (try simp only [Int.toNat_natCast] at h33)
                refine hv_iinc C 4 4 [(4, .int (iz (((h : Nat) : Int) + 1))), (0, .ref a0), (1, .int (iz ((sn : Nat) : Int))), (2, .int (iz k)), (3, .int (iz n))] dX12_lost_87 rfl (by decide) rfl ?_
                refine hv_goto C 16 dX12_lost_90 (by decide) ?_
                refine hv_loc [1, 2, 3, 4, 0] [(0, .ref a0), (1, .int (iz ((sn : Nat) : Int))), (2, .int (iz k)), (3, .int (iz n)), (4, .int (iz (((h : Nat) : Int) + 1)))] rfl ?_
                exact ih16 (h + 1) n (by omega) (by omega) (by omega) (by have e7 : (σ 1 4).toNat - h = ((σ 1 4).toNat - (h + 1)) + 1 := (by omega); rw [e7, lst] at hr9; first | (rw [if_neg (by omega)] at hr9; exact hr9) | (rw [if_pos (by omega), if_neg (by omega)] at hr9; exact hr9))
    refine hv_loc [2, 3, 4, 1, 0] [(0, .ref a0), (1, .int (iz ((sn : Nat) : Int))), (2, .int (iz k)), (3, .int (iz 0)), (4, .int (iz 0))] rfl ?_
    exact L16 _ 0 0 (Nat.lt_succ_self _) (by omega) (by omega) rfl
  · skip
    refine hv_iconst C dX12_lost_9 ?_
    exact mo_iret (Qc := fun _ _ _ _ => True) C hr hlk (by first | exact if_n (by omega) rfl | (refine if_p (by omega) ?_; simp only [Int.toNat_natCast]; rw [← hr9]; first | (have e8 : (σ 1 4).toNat - h = 0 := (by omega); rw [e8]; rfl) | (have e7 : (σ 1 4).toNat - h = ((σ 1 4).toNat - (h + 1)) + 1 := (by omega); rw [e7, lst]; rw [if_pos (by omega), if_pos (by omega)]))) rfl dX12_lost_10
theorem dX12_milesOf_0 : decode cX12_milesOf 0 = .ok (.iconst 0, 1) := by decide +kernel
theorem dX12_milesOf_1 : decode cX12_milesOf 1 = .ok (.istore_n 2, 1) := by decide +kernel
theorem dX12_milesOf_2 : decode cX12_milesOf 2 = .ok (.iconst 0, 1) := by decide +kernel
theorem dX12_milesOf_3 : decode cX12_milesOf 3 = .ok (.istore_n 3, 1) := by decide +kernel
theorem dX12_milesOf_4 : decode cX12_milesOf 4 = .ok (.iload_n 3, 1) := by decide +kernel
theorem dX12_milesOf_5 : decode cX12_milesOf 5 = .ok (.aload_n 0, 1) := by decide +kernel
theorem dX12_milesOf_6 : decode cX12_milesOf 6 = .ok (.getfield 7, 3) := by decide +kernel
theorem dX12_milesOf_9 : decode cX12_milesOf 9 = .ok (.iconst 1, 1) := by decide +kernel
theorem dX12_milesOf_10 : decode cX12_milesOf 10 = .ok (.iaload, 1) := by decide +kernel
theorem dX12_milesOf_11 : decode cX12_milesOf 11 = .ok (.if_icmp .ge 31, 3) := by decide +kernel
theorem dX12_milesOf_14 : decode cX12_milesOf 14 = .ok (.iload_n 2, 1) := by decide +kernel
theorem dX12_milesOf_15 : decode cX12_milesOf 15 = .ok (.iload_n 1, 1) := by decide +kernel
theorem dX12_milesOf_16 : decode cX12_milesOf 16 = .ok (.iload_n 3, 1) := by decide +kernel
theorem dX12_milesOf_17 : decode cX12_milesOf 17 = .ok (.ishr, 1) := by decide +kernel
theorem dX12_milesOf_18 : decode cX12_milesOf 18 = .ok (.iconst 1, 1) := by decide +kernel
theorem dX12_milesOf_19 : decode cX12_milesOf 19 = .ok (.iand, 1) := by decide +kernel
theorem dX12_milesOf_20 : decode cX12_milesOf 20 = .ok (.iconst 1, 1) := by decide +kernel
theorem dX12_milesOf_21 : decode cX12_milesOf 21 = .ok (.if_icmp .ne 12, 3) := by decide +kernel
theorem dX12_milesOf_24 : decode cX12_milesOf 24 = .ok (.aload_n 0, 1) := by decide +kernel
theorem dX12_milesOf_25 : decode cX12_milesOf 25 = .ok (.iload_n 3, 1) := by decide +kernel
theorem dX12_milesOf_26 : decode cX12_milesOf 26 = .ok (.iconst 2, 1) := by decide +kernel
theorem dX12_milesOf_27 : decode cX12_milesOf 27 = .ok (.invokevirtual 237, 3) := by decide +kernel
theorem dX12_milesOf_30 : decode cX12_milesOf 30 = .ok (.goto 4, 3) := by decide +kernel
theorem dX12_milesOf_33 : decode cX12_milesOf 33 = .ok (.iconst 0, 1) := by decide +kernel
theorem dX12_milesOf_34 : decode cX12_milesOf 34 = .ok (.iadd, 1) := by decide +kernel
theorem dX12_milesOf_35 : decode cX12_milesOf 35 = .ok (.istore_n 2, 1) := by decide +kernel
theorem dX12_milesOf_36 : decode cX12_milesOf 36 = .ok (.iinc 3 1, 3) := by decide +kernel
theorem dX12_milesOf_39 : decode cX12_milesOf 39 = .ok (.goto (-35), 3) := by decide +kernel
theorem dX12_milesOf_42 : decode cX12_milesOf 42 = .ok (.iload_n 2, 1) := by decide +kernel
theorem dX12_milesOf_43 : decode cX12_milesOf 43 = .ok (.ireturn, 1) := by decide +kernel
set_option maxRecDepth 100000 in
set_option maxHeartbeats 4000000 in
theorem k_milesOf (l : Launch) {D : va_G} {cI cZ : ClassId} {a0 : Nat} (σ : Nat → Nat → Int) (st : Int) (hσ : rg σ) (hc : cn (σ 1)) (r_st : 0 ≤ st ∧ st ≤ 4095) : moM l D cI cZ a0 yX12_milesOf cX12_milesOf 4 (some .int) 1 22 [.ref a0, .int (iz st)] σ (some (.int (iz (ml (σ 1) st (σ 1 1).toNat)))) (σ) := by
  refine mo_start (by decide) rfl (Nat.le_of_ble_eq_true rfl) ?_
  intro p e s m args below meth c C K hr hlk
  refine hv_iconst C dX12_milesOf_0 ?_
  refine hv_istore_n C 2 [(2, .int (iz 0)), (0, .ref a0), (1, .int (iz st))] dX12_milesOf_1 rfl (by decide) rfl ?_
  refine hv_iconst C dX12_milesOf_2 ?_
  refine hv_istore_n C 3 [(3, .int (iz 0)), (2, .int (iz 0)), (0, .ref a0), (1, .int (iz st))] dX12_milesOf_3 rfl (by decide) rfl ?_
  have L4 : ∀ (f : Nat) (w : Nat) (sum : Int), (σ 1 1).toNat - w < f → (w : Int) ≤ σ 1 1 → sum = ml (σ 1) st w → hvV p l e { frames := 1, cells := 0, slots := 0, locals := 22 } s m args below meth c 4 (moR a0) 0 0 (MQ below (moQ D cI cZ a0 (some (.int (iz (ml (σ 1) st (σ 1 1).toNat)))) (σ)) args s 0 0 (moR a0)) (moI D cI cZ a0 s.heap σ) 4 [(0, .ref a0), (1, .int (iz st)), (2, .int (iz sum)), (3, .int (iz ((w : Nat) : Int)))] [] := by
    intro f
    induction f with
    | zero => intro _ _ hm; exact absurd hm (Nat.not_lt_zero _)
    | succ f ih4 =>
      intro w sum hm4 hw0 hs1
      refine hv_iload_n C 3 3 dX12_milesOf_4 rfl rfl ?_
      refine hv_aload_n C 0 0 dX12_milesOf_5 rfl rfl ?_
      refine mo_geta C K 0 1 (by decide) rfl mo_hw fl_7 rfl dX12_milesOf_6 ?_
      refine hv_iconst C dX12_milesOf_9 ?_
      refine mo_iald C K 1 9040 1 rfl (by omega) (by omega) (by decide) dX12_milesOf_10 ?_
      refine hv_nm (fun x1 ex1 => ?_)
      have rx1 : inI x1 := by rw [ex1]; exact hσ 1 1
      refine hv_icmp_ge C 42 dX12_milesOf_11 (by decide) (by omega) (by omega) (fun h11 => ?_) (fun h11 => ?_)
      · skip
        refine hv_iload_n C 2 2 dX12_milesOf_42 rfl rfl ?_
        exact mo_iret (Qc := fun _ _ _ _ => True) C hr hlk (by have e4 : (σ 1 1).toNat = w := (by omega); rw [e4]; exact hs1) rfl dX12_milesOf_43
      · skip
        refine hv_iload_n C 2 2 dX12_milesOf_14 rfl rfl ?_
        refine hv_iload_n C 1 1 dX12_milesOf_15 rfl rfl ?_
        refine hv_iload_n C 3 3 dX12_milesOf_16 rfl rfl ?_
        refine hv_ishr C w (by omega) (by omega) (by omega) dX12_milesOf_17 ?_
        refine hv_iconst C dX12_milesOf_18 ?_
        refine hv_imsk C 1 (by decide) (by decide) dX12_milesOf_19 ?_
        refine hv_iconst C dX12_milesOf_20 ?_
        refine hv_icmp_ne C 33 dX12_milesOf_21 (by decide) (by omega) (by omega) (fun h21 => ?_) (fun h21 => ?_)
        · skip
          refine hv_iconst C dX12_milesOf_33 ?_
          refine hv_iadd C dX12_milesOf_34 ?_
          refine hv_istore_n C 2 [(2, .int (iz (sum + 0))), (0, .ref a0), (1, .int (iz st)), (3, .int (iz ((w : Nat) : Int)))] dX12_milesOf_35 rfl (by decide) rfl ?_
          refine hv_iinc C 3 3 [(3, .int (iz (((w : Nat) : Int) + 1))), (2, .int (iz (sum + 0))), (0, .ref a0), (1, .int (iz st))] dX12_milesOf_36 rfl (by decide) rfl ?_
          refine hv_goto C 4 dX12_milesOf_39 (by decide) ?_
          refine hv_loc [2, 3, 1, 0] [(0, .ref a0), (1, .int (iz st)), (2, .int (iz (sum + 0))), (3, .int (iz (((w : Nat) : Int) + 1)))] rfl ?_
          exact ih4 (w + 1) (sum + 0) (by omega) (by omega) (by simp only [ml]; first | (rw [if_pos (by omega)]; omega) | (rw [if_neg (by omega)]; omega))
        · skip
          refine hv_aload_n C 0 0 dX12_milesOf_24 rfl rfl ?_
          refine hv_iload_n C 3 3 dX12_milesOf_25 rfl rfl ?_
          refine hv_iconst C dX12_milesOf_26 ?_
          refine mo_call [.int (iz ((w : Nat) : Int)), .int (iz 2)] [.int (iz sum)] C K (k_wireOf l σ w 2 (by omega) (by omega)) ck_wireOf (by decide) rfl (Nat.le_of_ble_eq_true rfl) dX12_milesOf_27 ?_
          refine hv_nm (fun x2 ex2 => ?_)
          have rx2 : inI x2 := by rw [ex2]; exact hσ _ _
          refine hv_goto C 34 dX12_milesOf_30 (by decide) ?_
          refine hv_iadd C dX12_milesOf_34 ?_
          refine hv_istore_n C 2 [(2, .int (iz (sum + x2))), (0, .ref a0), (1, .int (iz st)), (3, .int (iz ((w : Nat) : Int)))] dX12_milesOf_35 rfl (by decide) rfl ?_
          refine hv_iinc C 3 3 [(3, .int (iz (((w : Nat) : Int) + 1))), (2, .int (iz (sum + x2))), (0, .ref a0), (1, .int (iz st))] dX12_milesOf_36 rfl (by decide) rfl ?_
          refine hv_goto C 4 dX12_milesOf_39 (by decide) ?_
          refine hv_loc [2, 3, 1, 0] [(0, .ref a0), (1, .int (iz st)), (2, .int (iz (sum + x2))), (3, .int (iz (((w : Nat) : Int) + 1)))] rfl ?_
          exact ih4 (w + 1) (sum + x2) (by omega) (by omega) (by simp only [ml]; first | (rw [if_pos (by omega)]; omega) | (rw [if_neg (by omega)]; omega))
  refine hv_loc [2, 3, 1, 0] [(0, .ref a0), (1, .int (iz st)), (2, .int (iz 0)), (3, .int (iz 0))] rfl ?_
  exact L4 _ 0 0 (Nat.lt_succ_self _) (by omega) rfl
