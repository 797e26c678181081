def pu4 (s : Nat → Nat → Int) (k : Nat) : Nat → (Nat → Nat → Int)
  | 0 => s
  | i + 1 => puS (pu4 s k i) (1 + 4 * k + i) ((pu4 s k i) 4 i)
def it9 (k : Nat) (s : Nat → Nat → Int) : Nat → Nat → Int := if k < 4 then pu4 (teS (if 3 < k then alS s else s)) k 4 else teS (if 3 < k then alS s else s)
def alw : Nat → Nat → (Nat → Nat → Int) → Nat × (Nat → Nat → Int)
  | 0, k, s => (k, s)
  | f + 1, k, s => if (it9 k s) 0 9 = 0 ∧ (it9 k s) 0 5 = 3 ∧ (it9 k s) 0 8 = 31 then alw f (k + 1) (adS (it9 k s)) else (k + 1, it9 k s)
def fu9 : Nat := 1002
theorem ps_pu4 {s : Nat → Nat → Int} (h : pI s) (k : Nat) : ∀ i, ps9 s (pu4 s k i)
  | 0 => ps_r h
  | i + 1 => ps_t (ps_pu4 h k i) (ps_pu (ps_pu4 h k i).1 _ ((ps_pu4 h k i).1.1 4 i))
theorem ps_it9 {s : Nat → Nat → Int} (h : pI s) (k : Nat) : ps9 s (it9 k s) := by
  have a : ps9 s (if 3 < k then alS s else s) := by
    split
    · exact ps_al h
    · exact ps_r h
  have b := ps_t a (ps_te a.1)
  unfold it9
  split
  · exact ps_t b (ps_pu4 b.1 k 4)
  · exact b
theorem ps_alw : ∀ (f k : Nat) {s : Nat → Nat → Int}, pI s → ps9 s (alw f k s).2
  | 0, k, s, h => ps_r h
  | f + 1, k, s, h => by
    have a := ps_it9 h k
    unfold alw
    split
    · next c => exact ps_t a (ps_t (ps_ad a.1 (by omega)) (ps_alw f (k + 1) (pI_ad a.1)))
    · exact a
theorem mu_le {s : Nat → Nat → Int} (h : pI s) : mu9 s ≤ 501 := by
  have a := h.2.1
  have b := h.2.2.1
  unfold mu9
  split <;> omega
theorem alw_s {g k : Nat} {s t : Nat → Nat → Int} (hg : 0 < g) (e : it9 k s = t) : alw g k s = if t 0 9 = 0 ∧ t 0 5 = 3 ∧ t 0 8 = 31 then alw (g - 1) (k + 1) (adS t) else (k + 1, t) := by
  obtain ⟨g1, rfl⟩ : ∃ q, g = q + 1 := ⟨g - 1, by omega⟩
  subst e
  rfl
def ln0 (s : Nat → Nat → Int) : Nat → Nat → Int := if 16 ≤ s 0 10 then alS s else s
def ln1 (s : Nat → Nat → Int) : Nat × (Nat → Nat → Int) := if s 0 9 = 0 ∧ s 0 5 = 3 ∧ s 0 8 = 30 then ((alw fu9 0 (adS s)).1, muS (alw fu9 0 (adS s)).2 58) else (0, s)
def ln6 (s : Nat → Nat → Int) : Nat → Nat → Int := u2 s 0 10 (s 0 10 + 1)
def ln5 (k : Nat) (d n : Int) (s : Nat → Nat → Int) : Nat → Nat → Int := ln6 (puS (puS (puS (muS s 59) 0 (k : Int)) 17 d) 18 n)
def ln4 (k : Nat) (d : Int) (s : Nat → Nat → Int) : Nat → Nat → Int := if d = 22 then ln5 k d (s 0 6) (nbS s) else ln5 k d 0 s
def ln3 (r : Nat × (Nat → Nat → Int)) : Nat → Nat → Int := if r.2 0 9 = 0 ∧ r.2 0 5 = 3 ∧ (20 ≤ r.2 0 8 ∧ r.2 0 8 ≤ 22) then ln4 r.1 (r.2 0 8) (adS r.2) else stS r.2
def lnS (s : Nat → Nat → Int) : Nat → Nat → Int := ln3 (ln1 (ln0 s))

theorem dX12_aLine_0 : decode cX12_aLine 0 = .ok (.aload_n 0, 1) := by decide +kernel
theorem dX12_aLine_1 : decode cX12_aLine 1 = .ok (.getfield 169, 3) := by decide +kernel
theorem dX12_aLine_4 : decode cX12_aLine 4 = .ok (.bipush 16, 2) := by decide +kernel
theorem dX12_aLine_6 : decode cX12_aLine 6 = .ok (.if_icmp .lt 7, 3) := by decide +kernel
theorem dX12_aLine_9 : decode cX12_aLine 9 = .ok (.aload_n 0, 1) := by decide +kernel
theorem dX12_aLine_10 : decode cX12_aLine 10 = .ok (.invokevirtual 172, 3) := by decide +kernel
theorem dX12_aLine_13 : decode cX12_aLine 13 = .ok (.iconst 0, 1) := by decide +kernel
theorem dX12_aLine_14 : decode cX12_aLine 14 = .ok (.istore_n 1, 1) := by decide +kernel
theorem dX12_aLine_15 : decode cX12_aLine 15 = .ok (.aload_n 0, 1) := by decide +kernel
theorem dX12_aLine_16 : decode cX12_aLine 16 = .ok (.bipush 30, 2) := by decide +kernel
theorem dX12_aLine_18 : decode cX12_aLine 18 = .ok (.invokevirtual 162, 3) := by decide +kernel
theorem dX12_aLine_21 : decode cX12_aLine 21 = .ok (.ifCond .eq 76, 3) := by decide +kernel
theorem dX12_aLine_24 : decode cX12_aLine 24 = .ok (.iconst 1, 1) := by decide +kernel
theorem dX12_aLine_25 : decode cX12_aLine 25 = .ok (.istore_n 2, 1) := by decide +kernel
theorem dX12_aLine_26 : decode cX12_aLine 26 = .ok (.iload_n 2, 1) := by decide +kernel
theorem dX12_aLine_27 : decode cX12_aLine 27 = .ok (.ifCond .eq 64, 3) := by decide +kernel
theorem dX12_aLine_30 : decode cX12_aLine 30 = .ok (.iload_n 1, 1) := by decide +kernel
theorem dX12_aLine_31 : decode cX12_aLine 31 = .ok (.iconst 3, 1) := by decide +kernel
theorem dX12_aLine_32 : decode cX12_aLine 32 = .ok (.if_icmp .le 7, 3) := by decide +kernel
theorem dX12_aLine_35 : decode cX12_aLine 35 = .ok (.aload_n 0, 1) := by decide +kernel
theorem dX12_aLine_36 : decode cX12_aLine 36 = .ok (.invokevirtual 172, 3) := by decide +kernel
theorem dX12_aLine_39 : decode cX12_aLine 39 = .ok (.aload_n 0, 1) := by decide +kernel
theorem dX12_aLine_40 : decode cX12_aLine 40 = .ok (.invokevirtual 175, 3) := by decide +kernel
theorem dX12_aLine_43 : decode cX12_aLine 43 = .ok (.iconst 0, 1) := by decide +kernel
theorem dX12_aLine_44 : decode cX12_aLine 44 = .ok (.istore_n 3, 1) := by decide +kernel
theorem dX12_aLine_45 : decode cX12_aLine 45 = .ok (.iload_n 3, 1) := by decide +kernel
theorem dX12_aLine_46 : decode cX12_aLine 46 = .ok (.iconst 4, 1) := by decide +kernel
theorem dX12_aLine_47 : decode cX12_aLine 47 = .ok (.if_icmp .ge 31, 3) := by decide +kernel
theorem dX12_aLine_50 : decode cX12_aLine 50 = .ok (.iload_n 1, 1) := by decide +kernel
theorem dX12_aLine_51 : decode cX12_aLine 51 = .ok (.iconst 4, 1) := by decide +kernel
theorem dX12_aLine_52 : decode cX12_aLine 52 = .ok (.if_icmp .ge 26, 3) := by decide +kernel
theorem dX12_aLine_55 : decode cX12_aLine 55 = .ok (.aload_n 0, 1) := by decide +kernel
theorem dX12_aLine_56 : decode cX12_aLine 56 = .ok (.iconst 1, 1) := by decide +kernel
theorem dX12_aLine_57 : decode cX12_aLine 57 = .ok (.iconst 4, 1) := by decide +kernel
theorem dX12_aLine_58 : decode cX12_aLine 58 = .ok (.iload_n 1, 1) := by decide +kernel
theorem dX12_aLine_59 : decode cX12_aLine 59 = .ok (.imul, 1) := by decide +kernel
theorem dX12_aLine_60 : decode cX12_aLine 60 = .ok (.iadd, 1) := by decide +kernel
theorem dX12_aLine_61 : decode cX12_aLine 61 = .ok (.iload_n 3, 1) := by decide +kernel
theorem dX12_aLine_62 : decode cX12_aLine 62 = .ok (.iadd, 1) := by decide +kernel
theorem dX12_aLine_63 : decode cX12_aLine 63 = .ok (.aload_n 0, 1) := by decide +kernel
theorem dX12_aLine_64 : decode cX12_aLine 64 = .ok (.getfield 20, 3) := by decide +kernel
theorem dX12_aLine_67 : decode cX12_aLine 67 = .ok (.iload_n 3, 1) := by decide +kernel
theorem dX12_aLine_68 : decode cX12_aLine 68 = .ok (.iaload, 1) := by decide +kernel
theorem dX12_aLine_69 : decode cX12_aLine 69 = .ok (.invokevirtual 178, 3) := by decide +kernel
theorem dX12_aLine_72 : decode cX12_aLine 72 = .ok (.iinc 3 1, 3) := by decide +kernel
theorem dX12_aLine_75 : decode cX12_aLine 75 = .ok (.goto (-30), 3) := by decide +kernel
theorem dX12_aLine_78 : decode cX12_aLine 78 = .ok (.iinc 1 1, 3) := by decide +kernel
theorem dX12_aLine_81 : decode cX12_aLine 81 = .ok (.aload_n 0, 1) := by decide +kernel
theorem dX12_aLine_82 : decode cX12_aLine 82 = .ok (.bipush 31, 2) := by decide +kernel
theorem dX12_aLine_84 : decode cX12_aLine 84 = .ok (.invokevirtual 162, 3) := by decide +kernel
theorem dX12_aLine_87 : decode cX12_aLine 87 = .ok (.istore_n 2, 1) := by decide +kernel
theorem dX12_aLine_88 : decode cX12_aLine 88 = .ok (.goto (-62), 3) := by decide +kernel
theorem dX12_aLine_91 : decode cX12_aLine 91 = .ok (.aload_n 0, 1) := by decide +kernel
theorem dX12_aLine_92 : decode cX12_aLine 92 = .ok (.bipush 58, 2) := by decide +kernel
theorem dX12_aLine_94 : decode cX12_aLine 94 = .ok (.invokevirtual 182, 3) := by decide +kernel
theorem dX12_aLine_97 : decode cX12_aLine 97 = .ok (.aload_n 0, 1) := by decide +kernel
theorem dX12_aLine_98 : decode cX12_aLine 98 = .ok (.getfield 152, 3) := by decide +kernel
theorem dX12_aLine_101 : decode cX12_aLine 101 = .ok (.ifCond .ne 25, 3) := by decide +kernel
theorem dX12_aLine_104 : decode cX12_aLine 104 = .ok (.aload_n 0, 1) := by decide +kernel
theorem dX12_aLine_105 : decode cX12_aLine 105 = .ok (.getfield 127, 3) := by decide +kernel
theorem dX12_aLine_108 : decode cX12_aLine 108 = .ok (.iconst 3, 1) := by decide +kernel
theorem dX12_aLine_109 : decode cX12_aLine 109 = .ok (.if_icmp .ne 17, 3) := by decide +kernel
theorem dX12_aLine_112 : decode cX12_aLine 112 = .ok (.aload_n 0, 1) := by decide +kernel
theorem dX12_aLine_113 : decode cX12_aLine 113 = .ok (.getfield 137, 3) := by decide +kernel
theorem dX12_aLine_116 : decode cX12_aLine 116 = .ok (.bipush 20, 2) := by decide +kernel
theorem dX12_aLine_118 : decode cX12_aLine 118 = .ok (.bipush 22, 2) := by decide +kernel
theorem dX12_aLine_120 : decode cX12_aLine 120 = .ok (.invokestatic 59, 3) := by decide +kernel
theorem dX12_aLine_123 : decode cX12_aLine 123 = .ok (.ifCond .ne 8, 3) := by decide +kernel
theorem dX12_aLine_126 : decode cX12_aLine 126 = .ok (.aload_n 0, 1) := by decide +kernel
theorem dX12_aLine_127 : decode cX12_aLine 127 = .ok (.invokevirtual 159, 3) := by decide +kernel
theorem dX12_aLine_130 : decode cX12_aLine 130 = .ok (.return_, 1) := by decide +kernel
theorem dX12_aLine_131 : decode cX12_aLine 131 = .ok (.aload_n 0, 1) := by decide +kernel
theorem dX12_aLine_132 : decode cX12_aLine 132 = .ok (.getfield 137, 3) := by decide +kernel
theorem dX12_aLine_135 : decode cX12_aLine 135 = .ok (.istore_n 2, 1) := by decide +kernel
theorem dX12_aLine_136 : decode cX12_aLine 136 = .ok (.aload_n 0, 1) := by decide +kernel
theorem dX12_aLine_137 : decode cX12_aLine 137 = .ok (.invokevirtual 156, 3) := by decide +kernel
theorem dX12_aLine_140 : decode cX12_aLine 140 = .ok (.iload_n 2, 1) := by decide +kernel
theorem dX12_aLine_141 : decode cX12_aLine 141 = .ok (.bipush 22, 2) := by decide +kernel
theorem dX12_aLine_143 : decode cX12_aLine 143 = .ok (.if_icmp .ne 10, 3) := by decide +kernel
theorem dX12_aLine_146 : decode cX12_aLine 146 = .ok (.aload_n 0, 1) := by decide +kernel
theorem dX12_aLine_147 : decode cX12_aLine 147 = .ok (.invokevirtual 165, 3) := by decide +kernel
theorem dX12_aLine_150 : decode cX12_aLine 150 = .ok (.goto 4, 3) := by decide +kernel
theorem dX12_aLine_153 : decode cX12_aLine 153 = .ok (.iconst 0, 1) := by decide +kernel
theorem dX12_aLine_154 : decode cX12_aLine 154 = .ok (.istore_n 3, 1) := by decide +kernel
theorem dX12_aLine_155 : decode cX12_aLine 155 = .ok (.aload_n 0, 1) := by decide +kernel
theorem dX12_aLine_156 : decode cX12_aLine 156 = .ok (.bipush 59, 2) := by decide +kernel
theorem dX12_aLine_158 : decode cX12_aLine 158 = .ok (.invokevirtual 182, 3) := by decide +kernel
theorem dX12_aLine_161 : decode cX12_aLine 161 = .ok (.aload_n 0, 1) := by decide +kernel
theorem dX12_aLine_162 : decode cX12_aLine 162 = .ok (.iconst 0, 1) := by decide +kernel
theorem dX12_aLine_163 : decode cX12_aLine 163 = .ok (.iload_n 1, 1) := by decide +kernel
theorem dX12_aLine_164 : decode cX12_aLine 164 = .ok (.invokevirtual 178, 3) := by decide +kernel
theorem dX12_aLine_167 : decode cX12_aLine 167 = .ok (.aload_n 0, 1) := by decide +kernel
theorem dX12_aLine_168 : decode cX12_aLine 168 = .ok (.bipush 17, 2) := by decide +kernel
theorem dX12_aLine_170 : decode cX12_aLine 170 = .ok (.iload_n 2, 1) := by decide +kernel
theorem dX12_aLine_171 : decode cX12_aLine 171 = .ok (.invokevirtual 178, 3) := by decide +kernel
theorem dX12_aLine_174 : decode cX12_aLine 174 = .ok (.aload_n 0, 1) := by decide +kernel
theorem dX12_aLine_175 : decode cX12_aLine 175 = .ok (.bipush 18, 2) := by decide +kernel
theorem dX12_aLine_177 : decode cX12_aLine 177 = .ok (.iload_n 3, 1) := by decide +kernel
theorem dX12_aLine_178 : decode cX12_aLine 178 = .ok (.invokevirtual 178, 3) := by decide +kernel
theorem dX12_aLine_181 : decode cX12_aLine 181 = .ok (.aload_n 0, 1) := by decide +kernel
theorem dX12_aLine_182 : decode cX12_aLine 182 = .ok (.dup, 1) := by decide +kernel
theorem dX12_aLine_183 : decode cX12_aLine 183 = .ok (.getfield 169, 3) := by decide +kernel
theorem dX12_aLine_186 : decode cX12_aLine 186 = .ok (.iconst 1, 1) := by decide +kernel
theorem dX12_aLine_187 : decode cX12_aLine 187 = .ok (.iadd, 1) := by decide +kernel
theorem dX12_aLine_188 : decode cX12_aLine 188 = .ok (.putfield 169, 3) := by decide +kernel
theorem dX12_aLine_191 : decode cX12_aLine 191 = .ok (.return_, 1) := by decide +kernel
set_option maxRecDepth 100000 in
set_option maxHeartbeats 4000000 in
theorem k_aLine (l : Launch) {D : va_G} {cI cZ : ClassId} {a0 : Nat} (σ : Nat → Nat → Int)  (hp : pI σ) (h10 : σ 0 10 ≤ 900) : moM l D cI cZ a0 yX12_aLine cX12_aLine 4 none 6 130 [.ref a0] σ none (lnS σ) := by
  refine mo_start (by decide) rfl (Nat.le_of_ble_eq_true rfl) ?_
  intro p e s m args below meth c C K hr hlk
  have hσ := hp.1
  refine hv_aload_n C 0 0 dX12_aLine_0 rfl rfl ?_
  refine mo_geti C K (x := σ 0 10) 10 (by decide) rfl mo_hw fl_169 rfl dX12_aLine_1 ?_
  refine hv_nm (fun x1 ex1 => ?_)
  have rx1 : inI x1 := by rw [ex1]; exact hσ 0 10
  refine hv_bipush C dX12_aLine_4 (by decide) ?_
  refine hv_icmp_lt C 13 dX12_aLine_6 (by decide) (by omega) (by omega) (fun h6 => ?_) (fun h6 => ?_)
  · skip
    obtain ⟨τ0, eτ0⟩ : ∃ xq9, xq9 = σ := ⟨_, rfl⟩
    refine mo_st eτ0.symm ?_
    have pτ0 : pI τ0 := by rw [eτ0]; exact (by first | exact hp | exact (ps_al hp).1)
    have rτ0 : rg τ0 := pτ0.1
    have lτ0 := pτ0.2.2.2
    have z0 : ln0 σ = τ0 := by rw [eτ0]; first | exact if_pos (by omega) | exact if_neg (by omega)
    refine hv_iconst C dX12_aLine_13 ?_
    refine hv_istore_n C 1 [(1, .int (iz 0)), (0, .ref a0)] dX12_aLine_14 rfl (by decide) rfl ?_
    refine hv_aload_n C 0 1 dX12_aLine_15 rfl rfl ?_
    refine hv_bipush C dX12_aLine_16 (by decide) ?_
    refine mo_call [.int (iz 30)] [] C K (k_takes l τ0 30 (by assumption) (by omega)) ck_takes (by decide) rfl (Nat.le_of_ble_eq_true rfl) dX12_aLine_18 ?_
    refine hv_dif_eq C 97 dX12_aLine_21 (by decide)  (fun h21 => ?_) (fun h21 => ?_)
    · skip
      refine mo_st (σ2 := τ0) (if_neg h21) ?_
      obtain ⟨τ5, eτ5⟩ : ∃ xq9, xq9 = τ0 := ⟨_, rfl⟩
      refine mo_st eτ5.symm ?_
      have pτ5 : pI τ5 := by rw [eτ5]; exact (by first | exact pτ0 | exact (ps_mu hp9 58).1)
      have rτ5 : rg τ5 := pτ5.1
      have lτ5 := pτ5.2.2.2
      have z5 : ln1 (ln0 σ) = (0, τ5) := by rw [z0, eτ5]; unfold ln1; first | (rw [if_pos h21, ← zr9]; done) | (rw [if_neg h21]; done)
      refine hv_aload_n C 0 1 dX12_aLine_97 rfl rfl ?_
      refine mo_geti C K (x := τ5 0 9) 9 (by decide) rfl mo_hw fl_152 rfl dX12_aLine_98 ?_
      refine hv_nm (fun x2 ex2 => ?_)
      have rx2 : inI x2 := by rw [ex2]; exact rτ5 0 9
      refine hv_if_ne C 126 dX12_aLine_101 (by decide) (by omega) (fun h101 => ?_) (fun h101 => ?_)
      · skip
        refine hv_aload_n C 0 1 dX12_aLine_126 rfl rfl ?_
        refine mo_call [] [] C K (k_stops l τ5  (by repeat (first | assumption | refine rg_sA ?_ ?_ | refine in_ua ?_ (by omega) | exact fun _ => hσ _ _))) ck_stops (by decide) rfl (Nat.le_of_ble_eq_true rfl) dX12_aLine_127 ?_
        exact mo_vret (Qc := fun _ _ _ _ => True) C hr hlk (by first | (unfold lnS; rw [z5]; exact (if_neg (show ¬ (τ5 0 9 = 0 ∧ τ5 0 5 = 3 ∧ (20 ≤ τ5 0 8 ∧ τ5 0 8 ≤ 22)) by omega)).symm) | (rw [zS7]; unfold ln5; rw [eτ11, eτ10, eτ9, eτ8, eτ7]; rfl)) dX12_aLine_130
      · skip
        refine hv_aload_n C 0 1 dX12_aLine_104 rfl rfl ?_
        refine mo_geti C K (x := τ5 0 5) 5 (by decide) rfl mo_hw fl_127 rfl dX12_aLine_105 ?_
        refine hv_nm (fun x3 ex3 => ?_)
        have rx3 : inI x3 := by rw [ex3]; exact rτ5 0 5
        refine hv_iconst C dX12_aLine_108 ?_
        refine hv_icmp_ne C 126 dX12_aLine_109 (by decide) (by omega) (by omega) (fun h109 => ?_) (fun h109 => ?_)
        · skip
          refine hv_aload_n C 0 1 dX12_aLine_126 rfl rfl ?_
          refine mo_call [] [] C K (k_stops l τ5  (by repeat (first | assumption | refine rg_sA ?_ ?_ | refine in_ua ?_ (by omega) | exact fun _ => hσ _ _))) ck_stops (by decide) rfl (Nat.le_of_ble_eq_true rfl) dX12_aLine_127 ?_
          exact mo_vret (Qc := fun _ _ _ _ => True) C hr hlk (by first | (unfold lnS; rw [z5]; exact (if_neg (show ¬ (τ5 0 9 = 0 ∧ τ5 0 5 = 3 ∧ (20 ≤ τ5 0 8 ∧ τ5 0 8 ≤ 22)) by omega)).symm) | (rw [zS7]; unfold ln5; rw [eτ11, eτ10, eτ9, eτ8, eτ7]; rfl)) dX12_aLine_130
        · skip
          refine hv_aload_n C 0 1 dX12_aLine_112 rfl rfl ?_
          refine mo_geti C K (x := τ5 0 8) 8 (by decide) rfl mo_hw fl_137 rfl dX12_aLine_113 ?_
          refine hv_nm (fun x4 ex4 => ?_)
          have rx4 : inI x4 := by rw [ex4]; exact rτ5 0 8
          refine hv_bipush C dX12_aLine_116 (by decide) ?_
          refine hv_bipush C dX12_aLine_118 (by decide) ?_
          refine mo_callS [.int (iz x4), .int (iz 20), .int (iz 22)] [] C K (k_isIn l τ5 x4 20 22 (by omega) (by omega) (by omega)) ck_isIn (by decide) rfl (Nat.le_of_ble_eq_true rfl) dX12_aLine_120 ?_
          refine hv_dif_ne C 131 dX12_aLine_123 (by decide)  (fun h123 => ?_) (fun h123 => ?_)
          · skip
            have zS : lnS σ = ln4 0 (τ5 0 8) (adS τ5) := by unfold lnS; rw [z5]; exact if_pos (show τ5 0 9 = 0 ∧ τ5 0 5 = 3 ∧ (20 ≤ τ5 0 8 ∧ τ5 0 8 ≤ 22) by omega)
            refine hv_aload_n C 0 1 dX12_aLine_131 rfl rfl ?_
            refine mo_geti C K (x := τ5 0 8) 8 (by decide) rfl mo_hw fl_137 rfl dX12_aLine_132 ?_
            refine hv_nm (fun x5 ex5 => ?_)
            have rx5 : inI x5 := by rw [ex5]; exact rτ5 0 8
            refine hv_istore_n C 2 [(2, .int (iz x5)), (1, .int (iz 0)), (0, .ref a0)] dX12_aLine_135 rfl (by decide) rfl ?_
            refine hv_aload_n C 0 2 dX12_aLine_136 rfl rfl ?_
            refine mo_call [] [] C K (k_advance l τ5  (by assumption)) ck_advance (by decide) rfl (Nat.le_of_ble_eq_true rfl) dX12_aLine_137 ?_
            obtain ⟨τ6, eτ6⟩ : ∃ xq9, xq9 = (adS τ5) := ⟨_, rfl⟩
            refine mo_st eτ6.symm ?_
            have pτ6 : pI τ6 := by rw [eτ6]; exact pI_ad pτ5
            have rτ6 : rg τ6 := pτ6.1
            have lτ6 := pτ6.2.2.2
            have zS6 : lnS σ = ln4 0 x5 τ6 := by rw [zS, eτ6]; congr 1; omega
            refine hv_iload_n C 2 0 dX12_aLine_140 rfl rfl ?_
            refine hv_bipush C dX12_aLine_141 (by decide) ?_
            refine hv_icmp_ne C 153 dX12_aLine_143 (by decide) (by omega) (by omega) (fun h143 => ?_) (fun h143 => ?_)
            · skip
              refine hv_iconst C dX12_aLine_153 ?_
              refine hv_istore_n C 3 [(3, .int (iz 0)), (2, .int (iz x5)), (1, .int (iz 0)), (0, .ref a0)] dX12_aLine_154 rfl (by decide) rfl ?_
              have zS7 : lnS σ = ln5 0 x5 0 τ6 := by rw [zS6]; first | exact if_pos (by omega) | exact if_neg (by omega)
              have zi3 : inI 0 := by first | decide | exact rτ6 0 6
              obtain ⟨τ7, eτ7⟩ : ∃ xq9, xq9 = τ6 := ⟨_, rfl⟩
              refine mo_st eτ7.symm ?_
              have pτ7 : pI τ7 := by rw [eτ7]; exact (by first | exact pτ6 | exact (ps_nb pτ6).1)
              have rτ7 : rg τ7 := pτ7.1
              have lτ7 := pτ7.2.2.2
              refine hv_aload_n C 0 3 dX12_aLine_155 rfl rfl ?_
              refine hv_bipush C dX12_aLine_156 (by decide) ?_
              refine mo_call [.int (iz 59)] [] C K (k_must l τ7 59 (by assumption) (by omega)) ck_must (by decide) rfl (Nat.le_of_ble_eq_true rfl) dX12_aLine_158 ?_
              obtain ⟨τ8, eτ8⟩ : ∃ xq9, xq9 = (muS τ7 59) := ⟨_, rfl⟩
              refine mo_st eτ8.symm ?_
              have pτ8 : pI τ8 := by rw [eτ8]; exact (ps_mu pτ7 59).1
              have rτ8 : rg τ8 := pτ8.1
              have lτ8 := pτ8.2.2.2
              refine hv_aload_n C 0 3 dX12_aLine_161 rfl rfl ?_
              refine hv_iconst C dX12_aLine_162 ?_
              refine hv_iload_n C 1 2 dX12_aLine_163 rfl rfl ?_
              refine mo_call [.int (iz 0), .int (iz 0)] [] C K (k_puts l τ8 0 0 (by repeat (first | assumption | refine rg_sA ?_ ?_ | refine in_ua ?_ (by omega) | exact fun _ => hσ _ _)) (by omega) (by omega)) ck_puts (by decide) rfl (Nat.le_of_ble_eq_true rfl) dX12_aLine_164 ?_
              obtain ⟨τ9, eτ9⟩ : ∃ xq9, xq9 = (puS τ8 0 0) := ⟨_, rfl⟩
              refine mo_st eτ9.symm ?_
              have pτ9 : pI τ9 := by rw [eτ9]; exact (ps_pu pτ8 _ (by omega)).1
              have rτ9 : rg τ9 := pτ9.1
              have lτ9 := pτ9.2.2.2
              refine hv_aload_n C 0 3 dX12_aLine_167 rfl rfl ?_
              refine hv_bipush C dX12_aLine_168 (by decide) ?_
              refine hv_iload_n C 2 1 dX12_aLine_170 rfl rfl ?_
              refine mo_call [.int (iz 17), .int (iz x5)] [] C K (k_puts l τ9 17 x5 (by repeat (first | assumption | refine rg_sA ?_ ?_ | refine in_ua ?_ (by omega) | exact fun _ => hσ _ _)) (by omega) (by omega)) ck_puts (by decide) rfl (Nat.le_of_ble_eq_true rfl) dX12_aLine_171 ?_
              obtain ⟨τ10, eτ10⟩ : ∃ xq9, xq9 = (puS τ9 17 x5) := ⟨_, rfl⟩
              refine mo_st eτ10.symm ?_
              have pτ10 : pI τ10 := by rw [eτ10]; exact (ps_pu pτ9 _ (by omega)).1
              have rτ10 : rg τ10 := pτ10.1
              have lτ10 := pτ10.2.2.2
              refine hv_aload_n C 0 3 dX12_aLine_174 rfl rfl ?_
              refine hv_bipush C dX12_aLine_175 (by decide) ?_
              refine hv_iload_n C 3 0 dX12_aLine_177 rfl rfl ?_
              refine mo_call [.int (iz 18), .int (iz 0)] [] C K (k_puts l τ10 18 0 (by repeat (first | assumption | refine rg_sA ?_ ?_ | refine in_ua ?_ (by omega) | exact fun _ => hσ _ _)) (by omega) (by omega)) ck_puts (by decide) rfl (Nat.le_of_ble_eq_true rfl) dX12_aLine_178 ?_
              obtain ⟨τ11, eτ11⟩ : ∃ xq9, xq9 = (puS τ10 18 0) := ⟨_, rfl⟩
              refine mo_st eτ11.symm ?_
              have pτ11 : pI τ11 := by rw [eτ11]; exact (ps_pu pτ10 _ (by first | exact zi3 | omega)).1
              have rτ11 : rg τ11 := pτ11.1
              have lτ11 := pτ11.2.2.2
              refine hv_aload_n C 0 3 dX12_aLine_181 rfl rfl ?_
              refine hv_dup C dX12_aLine_182 rfl ?_
              refine mo_geti C K (x := τ11 0 10) 10 (by decide) rfl mo_hw fl_169 rfl dX12_aLine_183 ?_
              refine hv_iconst C dX12_aLine_186 ?_
              refine hv_iadd C dX12_aLine_187 ?_
              refine mo_puti C K (σ2 := u2 τ11 0 10 ((τ11 0 10) + 1)) 10 (by decide) rfl mo_hw fl_169 rfl rfl (ty := .int) (by decide +kernel) rfl rfl dX12_aLine_188 ?_
              exact mo_vret (Qc := fun _ _ _ _ => True) C hr hlk (by first | (unfold lnS; rw [z5]; exact (if_neg (show ¬ (τ5 0 9 = 0 ∧ τ5 0 5 = 3 ∧ (20 ≤ τ5 0 8 ∧ τ5 0 8 ≤ 22)) by omega)).symm) | (rw [zS7]; unfold ln5; rw [eτ11, eτ10, eτ9, eτ8, eτ7]; rfl)) dX12_aLine_191
            · skip
              refine hv_aload_n C 0 2 dX12_aLine_146 rfl rfl ?_
              refine mo_call [] [] C K (k_numbered l τ6  (by assumption)) ck_numbered (by decide) rfl (Nat.le_of_ble_eq_true rfl) dX12_aLine_147 ?_
              refine hv_goto C 154 dX12_aLine_150 (by decide) ?_
              refine hv_istore_n C 3 [(3, .int (iz (τ6 0 6))), (2, .int (iz x5)), (1, .int (iz 0)), (0, .ref a0)] dX12_aLine_154 rfl (by decide) rfl ?_
              have zS7 : lnS σ = ln5 0 x5 (τ6 0 6) (nbS τ6) := by rw [zS6]; first | exact if_pos (by omega) | exact if_neg (by omega)
              have zi3 : inI (τ6 0 6) := by first | decide | exact rτ6 0 6
              obtain ⟨τ7, eτ7⟩ : ∃ xq9, xq9 = (nbS τ6) := ⟨_, rfl⟩
              refine mo_st eτ7.symm ?_
              have pτ7 : pI τ7 := by rw [eτ7]; exact (by first | exact pτ6 | exact (ps_nb pτ6).1)
              have rτ7 : rg τ7 := pτ7.1
              have lτ7 := pτ7.2.2.2
              refine hv_aload_n C 0 3 dX12_aLine_155 rfl rfl ?_
              refine hv_bipush C dX12_aLine_156 (by decide) ?_
              refine mo_call [.int (iz 59)] [] C K (k_must l τ7 59 (by assumption) (by omega)) ck_must (by decide) rfl (Nat.le_of_ble_eq_true rfl) dX12_aLine_158 ?_
              obtain ⟨τ8, eτ8⟩ : ∃ xq9, xq9 = (muS τ7 59) := ⟨_, rfl⟩
              refine mo_st eτ8.symm ?_
              have pτ8 : pI τ8 := by rw [eτ8]; exact (ps_mu pτ7 59).1
              have rτ8 : rg τ8 := pτ8.1
              have lτ8 := pτ8.2.2.2
              refine hv_aload_n C 0 3 dX12_aLine_161 rfl rfl ?_
              refine hv_iconst C dX12_aLine_162 ?_
              refine hv_iload_n C 1 2 dX12_aLine_163 rfl rfl ?_
              refine mo_call [.int (iz 0), .int (iz 0)] [] C K (k_puts l τ8 0 0 (by repeat (first | assumption | refine rg_sA ?_ ?_ | refine in_ua ?_ (by omega) | exact fun _ => hσ _ _)) (by omega) (by omega)) ck_puts (by decide) rfl (Nat.le_of_ble_eq_true rfl) dX12_aLine_164 ?_
              obtain ⟨τ9, eτ9⟩ : ∃ xq9, xq9 = (puS τ8 0 0) := ⟨_, rfl⟩
              refine mo_st eτ9.symm ?_
              have pτ9 : pI τ9 := by rw [eτ9]; exact (ps_pu pτ8 _ (by omega)).1
              have rτ9 : rg τ9 := pτ9.1
              have lτ9 := pτ9.2.2.2
              refine hv_aload_n C 0 3 dX12_aLine_167 rfl rfl ?_
              refine hv_bipush C dX12_aLine_168 (by decide) ?_
              refine hv_iload_n C 2 1 dX12_aLine_170 rfl rfl ?_
              refine mo_call [.int (iz 17), .int (iz x5)] [] C K (k_puts l τ9 17 x5 (by repeat (first | assumption | refine rg_sA ?_ ?_ | refine in_ua ?_ (by omega) | exact fun _ => hσ _ _)) (by omega) (by omega)) ck_puts (by decide) rfl (Nat.le_of_ble_eq_true rfl) dX12_aLine_171 ?_
              obtain ⟨τ10, eτ10⟩ : ∃ xq9, xq9 = (puS τ9 17 x5) := ⟨_, rfl⟩
              refine mo_st eτ10.symm ?_
              have pτ10 : pI τ10 := by rw [eτ10]; exact (ps_pu pτ9 _ (by omega)).1
              have rτ10 : rg τ10 := pτ10.1
              have lτ10 := pτ10.2.2.2
              refine hv_aload_n C 0 3 dX12_aLine_174 rfl rfl ?_
              refine hv_bipush C dX12_aLine_175 (by decide) ?_
              refine hv_iload_n C 3 0 dX12_aLine_177 rfl rfl ?_
              refine mo_call [.int (iz 18), .int (iz (τ6 0 6))] [] C K (k_puts l τ10 18 (τ6 0 6) (by repeat (first | assumption | refine rg_sA ?_ ?_ | refine in_ua ?_ (by omega) | exact fun _ => hσ _ _)) (by omega) (by omega)) ck_puts (by decide) rfl (Nat.le_of_ble_eq_true rfl) dX12_aLine_178 ?_
              obtain ⟨τ11, eτ11⟩ : ∃ xq9, xq9 = (puS τ10 18 (τ6 0 6)) := ⟨_, rfl⟩
              refine mo_st eτ11.symm ?_
              have pτ11 : pI τ11 := by rw [eτ11]; exact (ps_pu pτ10 _ (by first | exact zi3 | omega)).1
              have rτ11 : rg τ11 := pτ11.1
              have lτ11 := pτ11.2.2.2
              refine hv_aload_n C 0 3 dX12_aLine_181 rfl rfl ?_
              refine hv_dup C dX12_aLine_182 rfl ?_
              refine mo_geti C K (x := τ11 0 10) 10 (by decide) rfl mo_hw fl_169 rfl dX12_aLine_183 ?_
              refine hv_iconst C dX12_aLine_186 ?_
              refine hv_iadd C dX12_aLine_187 ?_
              refine mo_puti C K (σ2 := u2 τ11 0 10 ((τ11 0 10) + 1)) 10 (by decide) rfl mo_hw fl_169 rfl rfl (ty := .int) (by decide +kernel) rfl rfl dX12_aLine_188 ?_
              exact mo_vret (Qc := fun _ _ _ _ => True) C hr hlk (by first | (unfold lnS; rw [z5]; exact (if_neg (show ¬ (τ5 0 9 = 0 ∧ τ5 0 5 = 3 ∧ (20 ≤ τ5 0 8 ∧ τ5 0 8 ≤ 22)) by omega)).symm) | (rw [zS7]; unfold ln5; rw [eτ11, eτ10, eτ9, eτ8, eτ7]; rfl)) dX12_aLine_191
          · skip
            refine hv_aload_n C 0 1 dX12_aLine_126 rfl rfl ?_
            refine mo_call [] [] C K (k_stops l τ5  (by repeat (first | assumption | refine rg_sA ?_ ?_ | refine in_ua ?_ (by omega) | exact fun _ => hσ _ _))) ck_stops (by decide) rfl (Nat.le_of_ble_eq_true rfl) dX12_aLine_127 ?_
            exact mo_vret (Qc := fun _ _ _ _ => True) C hr hlk (by first | (unfold lnS; rw [z5]; exact (if_neg (show ¬ (τ5 0 9 = 0 ∧ τ5 0 5 = 3 ∧ (20 ≤ τ5 0 8 ∧ τ5 0 8 ≤ 22)) by omega)).symm) | (rw [zS7]; unfold ln5; rw [eτ11, eτ10, eτ9, eτ8, eτ7]; rfl)) dX12_aLine_130
    · skip
      refine mo_st (σ2 := adS τ0) (if_pos h21) ?_
      refine hv_iconst C dX12_aLine_24 ?_
      refine hv_istore_n C 2 [(2, .int (iz 1)), (1, .int (iz 0)), (0, .ref a0)] dX12_aLine_25 rfl (by decide) rfl ?_
      have L26 : ∀ (f : Nat) (more : Bool) (k : Nat) (s9 : Nat → Nat → Int) (g : Nat), g < f → pI s9 → ((more = true → k + mu9 s9 ≤ 600) ∧ k ≤ 601) → (more = true → mu9 s9 < g) → (if more = true then alw g k s9 else (k, s9)) = alw fu9 0 (adS τ0) → hvV p l e { frames := 6, cells := 0, slots := 0, locals := 130 } s m args below meth c 4 (moR a0) 0 0 (MQ below (moQ D cI cZ a0 none (lnS σ)) args s 0 0 (moR a0)) (moI D cI cZ a0 s.heap s9) 26 [(0, .ref a0), (1, .int (iz ((k : Nat) : Int))), (2, .int (iz (xb (more))))] [] := by
        intro f
        induction f with
        | zero => intro _ _ _ _ hm; exact absurd hm (Nat.not_lt_zero _)
        | succ f ih26 =>
          intro more k s9 g hm26 hp9 hk9 hg hr9
          have zq9s : rg s9 := hp9.1
          have zl9 := hp9.2.2.2
          refine hv_iload_n C 2 2 dX12_aLine_26 rfl rfl ?_
          refine hv_bif_eq C 91 dX12_aLine_27 (by decide)  (fun h27 => ?_) (fun h27 => ?_)
          · skip
            have zr9 := hr9
            rw [if_neg (by rw [h27]; decide)] at zr9
            refine hv_aload_n C 0 0 dX12_aLine_91 rfl rfl ?_
            refine hv_bipush C dX12_aLine_92 (by decide) ?_
            refine mo_call [.int (iz 58)] [] C K (k_must l s9 58 (by assumption) (by omega)) ck_must (by decide) rfl (Nat.le_of_ble_eq_true rfl) dX12_aLine_94 ?_
            obtain ⟨τ5, eτ5⟩ : ∃ xq9, xq9 = (muS s9 58) := ⟨_, rfl⟩
            refine mo_st eτ5.symm ?_
            have pτ5 : pI τ5 := by rw [eτ5]; exact (by first | exact pτ0 | exact (ps_mu hp9 58).1)
            have rτ5 : rg τ5 := pτ5.1
            have lτ5 := pτ5.2.2.2
            have z5 : ln1 (ln0 σ) = (k, τ5) := by rw [z0, eτ5]; unfold ln1; first | (rw [if_pos h21, ← zr9]; done) | (rw [if_neg h21]; done)
            refine hv_aload_n C 0 0 dX12_aLine_97 rfl rfl ?_
            refine mo_geti C K (x := τ5 0 9) 9 (by decide) rfl mo_hw fl_152 rfl dX12_aLine_98 ?_
            refine hv_nm (fun x6 ex6 => ?_)
            have rx6 : inI x6 := by rw [ex6]; exact rτ5 0 9
            refine hv_if_ne C 126 dX12_aLine_101 (by decide) (by omega) (fun h101 => ?_) (fun h101 => ?_)
            · skip
              refine hv_aload_n C 0 0 dX12_aLine_126 rfl rfl ?_
              refine mo_call [] [] C K (k_stops l τ5  (by repeat (first | assumption | refine rg_sA ?_ ?_ | refine in_ua ?_ (by omega) | exact fun _ => hσ _ _))) ck_stops (by decide) rfl (Nat.le_of_ble_eq_true rfl) dX12_aLine_127 ?_
              exact mo_vret (Qc := fun _ _ _ _ => True) C hr hlk (by first | (unfold lnS; rw [z5]; exact (if_neg (show ¬ (τ5 0 9 = 0 ∧ τ5 0 5 = 3 ∧ (20 ≤ τ5 0 8 ∧ τ5 0 8 ≤ 22)) by omega)).symm) | (rw [zS7]; unfold ln5; rw [eτ11, eτ10, eτ9, eτ8, eτ7]; rfl)) dX12_aLine_130
            · skip
              refine hv_aload_n C 0 0 dX12_aLine_104 rfl rfl ?_
              refine mo_geti C K (x := τ5 0 5) 5 (by decide) rfl mo_hw fl_127 rfl dX12_aLine_105 ?_
              refine hv_nm (fun x7 ex7 => ?_)
              have rx7 : inI x7 := by rw [ex7]; exact rτ5 0 5
              refine hv_iconst C dX12_aLine_108 ?_
              refine hv_icmp_ne C 126 dX12_aLine_109 (by decide) (by omega) (by omega) (fun h109 => ?_) (fun h109 => ?_)
              · skip
                refine hv_aload_n C 0 0 dX12_aLine_126 rfl rfl ?_
                refine mo_call [] [] C K (k_stops l τ5  (by repeat (first | assumption | refine rg_sA ?_ ?_ | refine in_ua ?_ (by omega) | exact fun _ => hσ _ _))) ck_stops (by decide) rfl (Nat.le_of_ble_eq_true rfl) dX12_aLine_127 ?_
                exact mo_vret (Qc := fun _ _ _ _ => True) C hr hlk (by first | (unfold lnS; rw [z5]; exact (if_neg (show ¬ (τ5 0 9 = 0 ∧ τ5 0 5 = 3 ∧ (20 ≤ τ5 0 8 ∧ τ5 0 8 ≤ 22)) by omega)).symm) | (rw [zS7]; unfold ln5; rw [eτ11, eτ10, eτ9, eτ8, eτ7]; rfl)) dX12_aLine_130
              · skip
                refine hv_aload_n C 0 0 dX12_aLine_112 rfl rfl ?_
                refine mo_geti C K (x := τ5 0 8) 8 (by decide) rfl mo_hw fl_137 rfl dX12_aLine_113 ?_
                refine hv_nm (fun x8 ex8 => ?_)
                have rx8 : inI x8 := by rw [ex8]; exact rτ5 0 8
                refine hv_bipush C dX12_aLine_116 (by decide) ?_
                refine hv_bipush C dX12_aLine_118 (by decide) ?_
                refine mo_callS [.int (iz x8), .int (iz 20), .int (iz 22)] [] C K (k_isIn l τ5 x8 20 22 (by omega) (by omega) (by omega)) ck_isIn (by decide) rfl (Nat.le_of_ble_eq_true rfl) dX12_aLine_120 ?_
                refine hv_dif_ne C 131 dX12_aLine_123 (by decide)  (fun h123 => ?_) (fun h123 => ?_)
                · skip
                  have zS : lnS σ = ln4 k (τ5 0 8) (adS τ5) := by unfold lnS; rw [z5]; exact if_pos (show τ5 0 9 = 0 ∧ τ5 0 5 = 3 ∧ (20 ≤ τ5 0 8 ∧ τ5 0 8 ≤ 22) by omega)
                  refine hv_aload_n C 0 0 dX12_aLine_131 rfl rfl ?_
                  refine mo_geti C K (x := τ5 0 8) 8 (by decide) rfl mo_hw fl_137 rfl dX12_aLine_132 ?_
                  refine hv_nm (fun x9 ex9 => ?_)
                  have rx9 : inI x9 := by rw [ex9]; exact rτ5 0 8
                  refine hv_istore_n C 2 [(2, .int (iz x9)), (0, .ref a0), (1, .int (iz ((k : Nat) : Int)))] dX12_aLine_135 rfl (by decide) rfl ?_
                  refine hv_aload_n C 0 1 dX12_aLine_136 rfl rfl ?_
                  refine mo_call [] [] C K (k_advance l τ5  (by assumption)) ck_advance (by decide) rfl (Nat.le_of_ble_eq_true rfl) dX12_aLine_137 ?_
                  obtain ⟨τ6, eτ6⟩ : ∃ xq9, xq9 = (adS τ5) := ⟨_, rfl⟩
                  refine mo_st eτ6.symm ?_
                  have pτ6 : pI τ6 := by rw [eτ6]; exact pI_ad pτ5
                  have rτ6 : rg τ6 := pτ6.1
                  have lτ6 := pτ6.2.2.2
                  have zS6 : lnS σ = ln4 k x9 τ6 := by rw [zS, eτ6]; congr 1; omega
                  refine hv_iload_n C 2 0 dX12_aLine_140 rfl rfl ?_
                  refine hv_bipush C dX12_aLine_141 (by decide) ?_
                  refine hv_icmp_ne C 153 dX12_aLine_143 (by decide) (by omega) (by omega) (fun h143 => ?_) (fun h143 => ?_)
                  · skip
                    refine hv_iconst C dX12_aLine_153 ?_
                    refine hv_istore_n C 3 [(3, .int (iz 0)), (2, .int (iz x9)), (0, .ref a0), (1, .int (iz ((k : Nat) : Int)))] dX12_aLine_154 rfl (by decide) rfl ?_
                    have zS7 : lnS σ = ln5 k x9 0 τ6 := by rw [zS6]; first | exact if_pos (by omega) | exact if_neg (by omega)
                    have zi3 : inI 0 := by first | decide | exact rτ6 0 6
                    obtain ⟨τ7, eτ7⟩ : ∃ xq9, xq9 = τ6 := ⟨_, rfl⟩
                    refine mo_st eτ7.symm ?_
                    have pτ7 : pI τ7 := by rw [eτ7]; exact (by first | exact pτ6 | exact (ps_nb pτ6).1)
                    have rτ7 : rg τ7 := pτ7.1
                    have lτ7 := pτ7.2.2.2
                    refine hv_aload_n C 0 2 dX12_aLine_155 rfl rfl ?_
                    refine hv_bipush C dX12_aLine_156 (by decide) ?_
                    refine mo_call [.int (iz 59)] [] C K (k_must l τ7 59 (by assumption) (by omega)) ck_must (by decide) rfl (Nat.le_of_ble_eq_true rfl) dX12_aLine_158 ?_
                    obtain ⟨τ8, eτ8⟩ : ∃ xq9, xq9 = (muS τ7 59) := ⟨_, rfl⟩
                    refine mo_st eτ8.symm ?_
                    have pτ8 : pI τ8 := by rw [eτ8]; exact (ps_mu pτ7 59).1
                    have rτ8 : rg τ8 := pτ8.1
                    have lτ8 := pτ8.2.2.2
                    refine hv_aload_n C 0 2 dX12_aLine_161 rfl rfl ?_
                    refine hv_iconst C dX12_aLine_162 ?_
                    refine hv_iload_n C 1 3 dX12_aLine_163 rfl rfl ?_
                    refine mo_call [.int (iz 0), .int (iz ((k : Nat) : Int))] [] C K (k_puts l τ8 0 ((k : Nat) : Int) (by repeat (first | assumption | refine rg_sA ?_ ?_ | refine in_ua ?_ (by omega) | exact fun _ => hσ _ _)) (by omega) (by omega)) ck_puts (by decide) rfl (Nat.le_of_ble_eq_true rfl) dX12_aLine_164 ?_
                    obtain ⟨τ9, eτ9⟩ : ∃ xq9, xq9 = (puS τ8 0 ((k : Nat) : Int)) := ⟨_, rfl⟩
                    refine mo_st eτ9.symm ?_
                    have pτ9 : pI τ9 := by rw [eτ9]; exact (ps_pu pτ8 _ (by omega)).1
                    have rτ9 : rg τ9 := pτ9.1
                    have lτ9 := pτ9.2.2.2
                    refine hv_aload_n C 0 2 dX12_aLine_167 rfl rfl ?_
                    refine hv_bipush C dX12_aLine_168 (by decide) ?_
                    refine hv_iload_n C 2 1 dX12_aLine_170 rfl rfl ?_
                    refine mo_call [.int (iz 17), .int (iz x9)] [] C K (k_puts l τ9 17 x9 (by repeat (first | assumption | refine rg_sA ?_ ?_ | refine in_ua ?_ (by omega) | exact fun _ => hσ _ _)) (by omega) (by omega)) ck_puts (by decide) rfl (Nat.le_of_ble_eq_true rfl) dX12_aLine_171 ?_
                    obtain ⟨τ10, eτ10⟩ : ∃ xq9, xq9 = (puS τ9 17 x9) := ⟨_, rfl⟩
                    refine mo_st eτ10.symm ?_
                    have pτ10 : pI τ10 := by rw [eτ10]; exact (ps_pu pτ9 _ (by omega)).1
                    have rτ10 : rg τ10 := pτ10.1
                    have lτ10 := pτ10.2.2.2
                    refine hv_aload_n C 0 2 dX12_aLine_174 rfl rfl ?_
                    refine hv_bipush C dX12_aLine_175 (by decide) ?_
                    refine hv_iload_n C 3 0 dX12_aLine_177 rfl rfl ?_
                    refine mo_call [.int (iz 18), .int (iz 0)] [] C K (k_puts l τ10 18 0 (by repeat (first | assumption | refine rg_sA ?_ ?_ | refine in_ua ?_ (by omega) | exact fun _ => hσ _ _)) (by omega) (by omega)) ck_puts (by decide) rfl (Nat.le_of_ble_eq_true rfl) dX12_aLine_178 ?_
                    obtain ⟨τ11, eτ11⟩ : ∃ xq9, xq9 = (puS τ10 18 0) := ⟨_, rfl⟩
                    refine mo_st eτ11.symm ?_
                    have pτ11 : pI τ11 := by rw [eτ11]; exact (ps_pu pτ10 _ (by first | exact zi3 | omega)).1
                    have rτ11 : rg τ11 := pτ11.1
                    have lτ11 := pτ11.2.2.2
                    refine hv_aload_n C 0 2 dX12_aLine_181 rfl rfl ?_
                    refine hv_dup C dX12_aLine_182 rfl ?_
                    refine mo_geti C K (x := τ11 0 10) 10 (by decide) rfl mo_hw fl_169 rfl dX12_aLine_183 ?_
                    refine hv_iconst C dX12_aLine_186 ?_
                    refine hv_iadd C dX12_aLine_187 ?_
                    refine mo_puti C K (σ2 := u2 τ11 0 10 ((τ11 0 10) + 1)) 10 (by decide) rfl mo_hw fl_169 rfl rfl (ty := .int) (by decide +kernel) rfl rfl dX12_aLine_188 ?_
                    exact mo_vret (Qc := fun _ _ _ _ => True) C hr hlk (by first | (unfold lnS; rw [z5]; exact (if_neg (show ¬ (τ5 0 9 = 0 ∧ τ5 0 5 = 3 ∧ (20 ≤ τ5 0 8 ∧ τ5 0 8 ≤ 22)) by omega)).symm) | (rw [zS7]; unfold ln5; rw [eτ11, eτ10, eτ9, eτ8, eτ7]; rfl)) dX12_aLine_191
                  · skip
                    refine hv_aload_n C 0 1 dX12_aLine_146 rfl rfl ?_
                    refine mo_call [] [] C K (k_numbered l τ6  (by assumption)) ck_numbered (by decide) rfl (Nat.le_of_ble_eq_true rfl) dX12_aLine_147 ?_
                    refine hv_goto C 154 dX12_aLine_150 (by decide) ?_
                    refine hv_istore_n C 3 [(3, .int (iz (τ6 0 6))), (2, .int (iz x9)), (0, .ref a0), (1, .int (iz ((k : Nat) : Int)))] dX12_aLine_154 rfl (by decide) rfl ?_
                    have zS7 : lnS σ = ln5 k x9 (τ6 0 6) (nbS τ6) := by rw [zS6]; first | exact if_pos (by omega) | exact if_neg (by omega)
                    have zi3 : inI (τ6 0 6) := by first | decide | exact rτ6 0 6
                    obtain ⟨τ7, eτ7⟩ : ∃ xq9, xq9 = (nbS τ6) := ⟨_, rfl⟩
                    refine mo_st eτ7.symm ?_
                    have pτ7 : pI τ7 := by rw [eτ7]; exact (by first | exact pτ6 | exact (ps_nb pτ6).1)
                    have rτ7 : rg τ7 := pτ7.1
                    have lτ7 := pτ7.2.2.2
                    refine hv_aload_n C 0 2 dX12_aLine_155 rfl rfl ?_
                    refine hv_bipush C dX12_aLine_156 (by decide) ?_
                    refine mo_call [.int (iz 59)] [] C K (k_must l τ7 59 (by assumption) (by omega)) ck_must (by decide) rfl (Nat.le_of_ble_eq_true rfl) dX12_aLine_158 ?_
                    obtain ⟨τ8, eτ8⟩ : ∃ xq9, xq9 = (muS τ7 59) := ⟨_, rfl⟩
                    refine mo_st eτ8.symm ?_
                    have pτ8 : pI τ8 := by rw [eτ8]; exact (ps_mu pτ7 59).1
                    have rτ8 : rg τ8 := pτ8.1
                    have lτ8 := pτ8.2.2.2
                    refine hv_aload_n C 0 2 dX12_aLine_161 rfl rfl ?_
                    refine hv_iconst C dX12_aLine_162 ?_
                    refine hv_iload_n C 1 3 dX12_aLine_163 rfl rfl ?_
                    refine mo_call [.int (iz 0), .int (iz ((k : Nat) : Int))] [] C K (k_puts l τ8 0 ((k : Nat) : Int) (by repeat (first | assumption | refine rg_sA ?_ ?_ | refine in_ua ?_ (by omega) | exact fun _ => hσ _ _)) (by omega) (by omega)) ck_puts (by decide) rfl (Nat.le_of_ble_eq_true rfl) dX12_aLine_164 ?_
                    obtain ⟨τ9, eτ9⟩ : ∃ xq9, xq9 = (puS τ8 0 ((k : Nat) : Int)) := ⟨_, rfl⟩
                    refine mo_st eτ9.symm ?_
                    have pτ9 : pI τ9 := by rw [eτ9]; exact (ps_pu pτ8 _ (by omega)).1
                    have rτ9 : rg τ9 := pτ9.1
                    have lτ9 := pτ9.2.2.2
                    refine hv_aload_n C 0 2 dX12_aLine_167 rfl rfl ?_
                    refine hv_bipush C dX12_aLine_168 (by decide) ?_
                    refine hv_iload_n C 2 1 dX12_aLine_170 rfl rfl ?_
                    refine mo_call [.int (iz 17), .int (iz x9)] [] C K (k_puts l τ9 17 x9 (by repeat (first | assumption | refine rg_sA ?_ ?_ | refine in_ua ?_ (by omega) | exact fun _ => hσ _ _)) (by omega) (by omega)) ck_puts (by decide) rfl (Nat.le_of_ble_eq_true rfl) dX12_aLine_171 ?_
                    obtain ⟨τ10, eτ10⟩ : ∃ xq9, xq9 = (puS τ9 17 x9) := ⟨_, rfl⟩
                    refine mo_st eτ10.symm ?_
                    have pτ10 : pI τ10 := by rw [eτ10]; exact (ps_pu pτ9 _ (by omega)).1
                    have rτ10 : rg τ10 := pτ10.1
                    have lτ10 := pτ10.2.2.2
                    refine hv_aload_n C 0 2 dX12_aLine_174 rfl rfl ?_
                    refine hv_bipush C dX12_aLine_175 (by decide) ?_
                    refine hv_iload_n C 3 0 dX12_aLine_177 rfl rfl ?_
                    refine mo_call [.int (iz 18), .int (iz (τ6 0 6))] [] C K (k_puts l τ10 18 (τ6 0 6) (by repeat (first | assumption | refine rg_sA ?_ ?_ | refine in_ua ?_ (by omega) | exact fun _ => hσ _ _)) (by omega) (by omega)) ck_puts (by decide) rfl (Nat.le_of_ble_eq_true rfl) dX12_aLine_178 ?_
                    obtain ⟨τ11, eτ11⟩ : ∃ xq9, xq9 = (puS τ10 18 (τ6 0 6)) := ⟨_, rfl⟩
                    refine mo_st eτ11.symm ?_
                    have pτ11 : pI τ11 := by rw [eτ11]; exact (ps_pu pτ10 _ (by first | exact zi3 | omega)).1
                    have rτ11 : rg τ11 := pτ11.1
                    have lτ11 := pτ11.2.2.2
                    refine hv_aload_n C 0 2 dX12_aLine_181 rfl rfl ?_
                    refine hv_dup C dX12_aLine_182 rfl ?_
                    refine mo_geti C K (x := τ11 0 10) 10 (by decide) rfl mo_hw fl_169 rfl dX12_aLine_183 ?_
                    refine hv_iconst C dX12_aLine_186 ?_
                    refine hv_iadd C dX12_aLine_187 ?_
                    refine mo_puti C K (σ2 := u2 τ11 0 10 ((τ11 0 10) + 1)) 10 (by decide) rfl mo_hw fl_169 rfl rfl (ty := .int) (by decide +kernel) rfl rfl dX12_aLine_188 ?_
                    exact mo_vret (Qc := fun _ _ _ _ => True) C hr hlk (by first | (unfold lnS; rw [z5]; exact (if_neg (show ¬ (τ5 0 9 = 0 ∧ τ5 0 5 = 3 ∧ (20 ≤ τ5 0 8 ∧ τ5 0 8 ≤ 22)) by omega)).symm) | (rw [zS7]; unfold ln5; rw [eτ11, eτ10, eτ9, eτ8, eτ7]; rfl)) dX12_aLine_191
                · skip
                  refine hv_aload_n C 0 0 dX12_aLine_126 rfl rfl ?_
                  refine mo_call [] [] C K (k_stops l τ5  (by repeat (first | assumption | refine rg_sA ?_ ?_ | refine in_ua ?_ (by omega) | exact fun _ => hσ _ _))) ck_stops (by decide) rfl (Nat.le_of_ble_eq_true rfl) dX12_aLine_127 ?_
                  exact mo_vret (Qc := fun _ _ _ _ => True) C hr hlk (by first | (unfold lnS; rw [z5]; exact (if_neg (show ¬ (τ5 0 9 = 0 ∧ τ5 0 5 = 3 ∧ (20 ≤ τ5 0 8 ∧ τ5 0 8 ≤ 22)) by omega)).symm) | (rw [zS7]; unfold ln5; rw [eτ11, eτ10, eτ9, eτ8, eτ7]; rfl)) dX12_aLine_130
          · skip
            refine hv_iload_n C 1 1 dX12_aLine_30 rfl rfl ?_
            refine hv_iconst C dX12_aLine_31 ?_
            refine hv_icmp_le C 39 dX12_aLine_32 (by decide) (by omega) (by omega) (fun h32 => ?_) (fun h32 => ?_)
            · skip
              obtain ⟨τ1, eτ1⟩ : ∃ xq9, xq9 = s9 := ⟨_, rfl⟩
              refine mo_st eτ1.symm ?_
              have pτ1 : pI τ1 := by rw [eτ1]; exact (by first | exact hp9 | exact (ps_al hp9).1)
              have rτ1 : rg τ1 := pτ1.1
              have lτ1 := pτ1.2.2.2
              have z1 : (if 3 < k then alS s9 else s9) = τ1 := by rw [eτ1]; first | exact if_pos (by omega) | exact if_neg (by omega)
              refine hv_aload_n C 0 0 dX12_aLine_39 rfl rfl ?_
              refine mo_call [] [] C K (k_aTest l τ1  (by assumption)) ck_aTest (by decide) rfl (Nat.le_of_ble_eq_true rfl) dX12_aLine_40 ?_
              obtain ⟨τ2, eτ2⟩ : ∃ xq9, xq9 = (teS τ1) := ⟨_, rfl⟩
              refine mo_st eτ2.symm ?_
              have pτ2 : pI τ2 := by rw [eτ2]; exact (ps_te pτ1).1
              have rτ2 : rg τ2 := pτ2.1
              have lτ2 := pτ2.2.2.2
              refine hv_iconst C dX12_aLine_43 ?_
              refine hv_istore_n C 3 [(3, .int (iz 0)), (0, .ref a0), (1, .int (iz ((k : Nat) : Int))), (2, .int (iz (xb (more))))] dX12_aLine_44 rfl (by decide) rfl ?_
              have L45 : ∀ (f : Nat) (i : Nat) (s8 : Nat → Nat → Int), 4 - i < f → pI s8 → i ≤ 4 → (0 < i → k < 4) → s8 = pu4 τ2 k i → hvV p l e { frames := 6, cells := 0, slots := 0, locals := 130 } s m args below meth c 4 (moR a0) 0 0 (MQ below (moQ D cI cZ a0 none (lnS σ)) args s 0 0 (moR a0)) (moI D cI cZ a0 s.heap s8) 45 [(0, .ref a0), (1, .int (iz ((k : Nat) : Int))), (2, .int (iz (xb (more)))), (3, .int (iz ((i : Nat) : Int)))] [] := by
                intro f
                induction f with
                | zero => intro _ _ hm; exact absurd hm (Nat.not_lt_zero _)
                | succ f ih45 =>
                  intro i s8 hm45 hp8 hi4 hki hs8
                  have zr8 : rg s8 := hp8.1
                  have zl8 := hp8.2.2.2
                  refine hv_iload_n C 3 3 dX12_aLine_45 rfl rfl ?_
                  refine hv_iconst C dX12_aLine_46 ?_
                  refine hv_icmp_ge C 78 dX12_aLine_47 (by decide) (by omega) (by omega) (fun h47 => ?_) (fun h47 => ?_)
                  · skip
                    have z8 : it9 k s9 = s8 := by unfold it9; rw [z1, ← eτ2, hs8]; first | (rw [if_pos (by omega), show i = 4 by omega]; done) | (rw [if_neg (by omega), show i = 0 by omega]; rfl)
                    have zm := ps_it9 hp9 k
                    rw [z8] at zm
                    have zg := hg h27
                    have zr9 := hr9
                    rw [if_pos h27, alw_s (by omega) z8] at zr9
                    refine hv_iinc C 1 1 [(1, .int (iz (((k : Nat) : Int) + 1))), (0, .ref a0), (2, .int (iz (xb (more)))), (3, .int (iz ((i : Nat) : Int)))] dX12_aLine_78 rfl (by decide) rfl ?_
                    refine hv_aload_n C 0 1 dX12_aLine_81 rfl rfl ?_
                    refine hv_bipush C dX12_aLine_82 (by decide) ?_
                    refine mo_call [.int (iz 31)] [] C K (k_takes l s8 31 (by assumption) (by omega)) ck_takes (by decide) rfl (Nat.le_of_ble_eq_true rfl) dX12_aLine_84 ?_
                    refine hv_istore_n C 2 [(2, .int (iz (xb (decide (s8 0 9 = 0 ∧ s8 0 5 = 3 ∧ s8 0 8 = 31))))), (1, .int (iz (((k : Nat) : Int) + 1))), (0, .ref a0), (3, .int (iz ((i : Nat) : Int)))] dX12_aLine_87 rfl (by decide) rfl ?_
                    refine hv_goto C 26 dX12_aLine_88 (by decide) ?_
                    refine hv_loc [2, 1, 0] [(0, .ref a0), (1, .int (iz (((k : Nat) : Int) + 1))), (2, .int (iz (xb (decide (s8 0 9 = 0 ∧ s8 0 5 = 3 ∧ s8 0 8 = 31)))))] rfl ?_
                    exact ih26 (decide (s8 0 9 = 0 ∧ s8 0 5 = 3 ∧ s8 0 8 = 31)) (k + 1) (tkS s8 31) (g - 1) (by have zg1 := hg h27; omega) (ps_tk hp8 31).1 ⟨fun zt => by have zc9 : (s8 0 9 = 0 ∧ s8 0 5 = 3 ∧ s8 0 8 = 31) := of_decide_eq_true zt; have z2 := mu_ad hp8 (by omega); rw [show tkS s8 31 = adS s8 from if_pos zc9]; have z4 := zm.2.2; have z5 := hk9.1 h27; omega, by have z5 := hk9.1 h27; omega⟩ (fun zt => by have zc9 : (s8 0 9 = 0 ∧ s8 0 5 = 3 ∧ s8 0 8 = 31) := of_decide_eq_true zt; have z2 := mu_ad hp8 (by omega); rw [show tkS s8 31 = adS s8 from if_pos zc9]; have z4 := zm.2.2; omega) (by rw [← zr9]; by_cases zc9 : (s8 0 9 = 0 ∧ s8 0 5 = 3 ∧ s8 0 8 = 31); (rw [if_pos (decide_eq_true zc9), if_pos zc9, show tkS s8 31 = adS s8 from if_pos zc9]); (rw [if_neg (by rw [decide_eq_false zc9]; decide), if_neg zc9, show tkS s8 31 = s8 from if_neg zc9]))
                  · skip
                    refine hv_iload_n C 1 1 dX12_aLine_50 rfl rfl ?_
                    refine hv_iconst C dX12_aLine_51 ?_
                    refine hv_icmp_ge C 78 dX12_aLine_52 (by decide) (by omega) (by omega) (fun h52 => ?_) (fun h52 => ?_)
                    · skip
                      have z8 : it9 k s9 = s8 := by unfold it9; rw [z1, ← eτ2, hs8]; first | (rw [if_pos (by omega), show i = 4 by omega]; done) | (rw [if_neg (by omega), show i = 0 by omega]; rfl)
                      have zm := ps_it9 hp9 k
                      rw [z8] at zm
                      have zg := hg h27
                      have zr9 := hr9
                      rw [if_pos h27, alw_s (by omega) z8] at zr9
                      refine hv_iinc C 1 1 [(1, .int (iz (((k : Nat) : Int) + 1))), (0, .ref a0), (2, .int (iz (xb (more)))), (3, .int (iz ((i : Nat) : Int)))] dX12_aLine_78 rfl (by decide) rfl ?_
                      refine hv_aload_n C 0 1 dX12_aLine_81 rfl rfl ?_
                      refine hv_bipush C dX12_aLine_82 (by decide) ?_
                      refine mo_call [.int (iz 31)] [] C K (k_takes l s8 31 (by assumption) (by omega)) ck_takes (by decide) rfl (Nat.le_of_ble_eq_true rfl) dX12_aLine_84 ?_
                      refine hv_istore_n C 2 [(2, .int (iz (xb (decide (s8 0 9 = 0 ∧ s8 0 5 = 3 ∧ s8 0 8 = 31))))), (1, .int (iz (((k : Nat) : Int) + 1))), (0, .ref a0), (3, .int (iz ((i : Nat) : Int)))] dX12_aLine_87 rfl (by decide) rfl ?_
                      refine hv_goto C 26 dX12_aLine_88 (by decide) ?_
                      refine hv_loc [2, 1, 0] [(0, .ref a0), (1, .int (iz (((k : Nat) : Int) + 1))), (2, .int (iz (xb (decide (s8 0 9 = 0 ∧ s8 0 5 = 3 ∧ s8 0 8 = 31)))))] rfl ?_
                      exact ih26 (decide (s8 0 9 = 0 ∧ s8 0 5 = 3 ∧ s8 0 8 = 31)) (k + 1) (tkS s8 31) (g - 1) (by have zg1 := hg h27; omega) (ps_tk hp8 31).1 ⟨fun zt => by have zc9 : (s8 0 9 = 0 ∧ s8 0 5 = 3 ∧ s8 0 8 = 31) := of_decide_eq_true zt; have z2 := mu_ad hp8 (by omega); rw [show tkS s8 31 = adS s8 from if_pos zc9]; have z4 := zm.2.2; have z5 := hk9.1 h27; omega, by have z5 := hk9.1 h27; omega⟩ (fun zt => by have zc9 : (s8 0 9 = 0 ∧ s8 0 5 = 3 ∧ s8 0 8 = 31) := of_decide_eq_true zt; have z2 := mu_ad hp8 (by omega); rw [show tkS s8 31 = adS s8 from if_pos zc9]; have z4 := zm.2.2; omega) (by rw [← zr9]; by_cases zc9 : (s8 0 9 = 0 ∧ s8 0 5 = 3 ∧ s8 0 8 = 31); (rw [if_pos (decide_eq_true zc9), if_pos zc9, show tkS s8 31 = adS s8 from if_pos zc9]); (rw [if_neg (by rw [decide_eq_false zc9]; decide), if_neg zc9, show tkS s8 31 = s8 from if_neg zc9]))
                    · skip
                      refine hv_aload_n C 0 0 dX12_aLine_55 rfl rfl ?_
                      refine hv_iconst C dX12_aLine_56 ?_
                      refine hv_iconst C dX12_aLine_57 ?_
                      refine hv_iload_n C 1 1 dX12_aLine_58 rfl rfl ?_
                      refine hv_imul C dX12_aLine_59 ?_
                      refine hv_iadd C dX12_aLine_60 ?_
                      refine hv_iload_n C 3 3 dX12_aLine_61 rfl rfl ?_
                      refine hv_iadd C dX12_aLine_62 ?_
                      refine hv_aload_n C 0 0 dX12_aLine_63 rfl rfl ?_
                      refine mo_geta C K 12 4 (by decide) rfl mo_hw fl_20 rfl dX12_aLine_64 ?_
                      refine hv_iload_n C 3 3 dX12_aLine_67 rfl rfl ?_
                      refine mo_iald C K 4 4 i rfl (by omega) (by omega) (by decide) dX12_aLine_68 ?_
                      refine hv_as ((s8 4 i)) rfl ?_
                      refine mo_call [.int (iz ((1 + (4 * ((k : Nat) : Int))) + ((i : Nat) : Int))), .int (iz (s8 4 i))] [] C K (k_puts l s8 ((1 + (4 * k)) + i) (s8 4 i) (by repeat (first | assumption | refine rg_sA ?_ ?_ | refine in_ua ?_ (by omega) | exact fun _ => hσ _ _)) (by omega) (by omega)) ck_puts (by decide) rfl (Nat.le_of_ble_eq_true rfl) dX12_aLine_69 ?_
                      refine hv_iinc C 3 3 [(3, .int (iz (((i : Nat) : Int) + 1))), (0, .ref a0), (1, .int (iz ((k : Nat) : Int))), (2, .int (iz (xb (more))))] dX12_aLine_72 rfl (by decide) rfl ?_
                      refine hv_goto C 45 dX12_aLine_75 (by decide) ?_
                      refine hv_loc [1, 2, 3, 0] [(0, .ref a0), (1, .int (iz ((k : Nat) : Int))), (2, .int (iz (xb (more)))), (3, .int (iz (((i : Nat) : Int) + 1)))] rfl ?_
                      exact ih45 (i + 1) (puS s8 ((1 + (4 * k)) + i) (s8 4 i)) (by omega) (by have zq9 := (ps_pu hp8 (1 + 4 * k + i) (hp8.1 4 i)); exact zq9.1) (by omega) (by omega) (by rw [hs8]; rfl)
              refine hv_loc [1, 2, 3, 0] [(0, .ref a0), (1, .int (iz ((k : Nat) : Int))), (2, .int (iz (xb (more)))), (3, .int (iz 0))] rfl ?_
              exact L45 _ 0 τ2 (Nat.lt_succ_self _) pτ2 (by omega) (by omega) rfl
            · skip
              refine hv_aload_n C 0 0 dX12_aLine_35 rfl rfl ?_
              refine mo_call [] [] C K (k_also l s9  (by repeat (first | assumption | refine rg_sA ?_ ?_ | refine in_ua ?_ (by omega) | exact fun _ => hσ _ _))) ck_also (by decide) rfl (Nat.le_of_ble_eq_true rfl) dX12_aLine_36 ?_
              obtain ⟨τ1, eτ1⟩ : ∃ xq9, xq9 = (alS s9) := ⟨_, rfl⟩
              refine mo_st eτ1.symm ?_
              have pτ1 : pI τ1 := by rw [eτ1]; exact (by first | exact hp9 | exact (ps_al hp9).1)
              have rτ1 : rg τ1 := pτ1.1
              have lτ1 := pτ1.2.2.2
              have z1 : (if 3 < k then alS s9 else s9) = τ1 := by rw [eτ1]; first | exact if_pos (by omega) | exact if_neg (by omega)
              refine hv_aload_n C 0 0 dX12_aLine_39 rfl rfl ?_
              refine mo_call [] [] C K (k_aTest l τ1  (by assumption)) ck_aTest (by decide) rfl (Nat.le_of_ble_eq_true rfl) dX12_aLine_40 ?_
              obtain ⟨τ2, eτ2⟩ : ∃ xq9, xq9 = (teS τ1) := ⟨_, rfl⟩
              refine mo_st eτ2.symm ?_
              have pτ2 : pI τ2 := by rw [eτ2]; exact (ps_te pτ1).1
              have rτ2 : rg τ2 := pτ2.1
              have lτ2 := pτ2.2.2.2
              refine hv_iconst C dX12_aLine_43 ?_
              refine hv_istore_n C 3 [(3, .int (iz 0)), (0, .ref a0), (1, .int (iz ((k : Nat) : Int))), (2, .int (iz (xb (more))))] dX12_aLine_44 rfl (by decide) rfl ?_
              have L45 : ∀ (f : Nat) (i : Nat) (s8 : Nat → Nat → Int), 4 - i < f → pI s8 → i ≤ 4 → (0 < i → k < 4) → s8 = pu4 τ2 k i → hvV p l e { frames := 6, cells := 0, slots := 0, locals := 130 } s m args below meth c 4 (moR a0) 0 0 (MQ below (moQ D cI cZ a0 none (lnS σ)) args s 0 0 (moR a0)) (moI D cI cZ a0 s.heap s8) 45 [(0, .ref a0), (1, .int (iz ((k : Nat) : Int))), (2, .int (iz (xb (more)))), (3, .int (iz ((i : Nat) : Int)))] [] := by
                intro f
                induction f with
                | zero => intro _ _ hm; exact absurd hm (Nat.not_lt_zero _)
                | succ f ih45 =>
                  intro i s8 hm45 hp8 hi4 hki hs8
                  have zr8 : rg s8 := hp8.1
                  have zl8 := hp8.2.2.2
                  refine hv_iload_n C 3 3 dX12_aLine_45 rfl rfl ?_
                  refine hv_iconst C dX12_aLine_46 ?_
                  refine hv_icmp_ge C 78 dX12_aLine_47 (by decide) (by omega) (by omega) (fun h47 => ?_) (fun h47 => ?_)
                  · skip
                    have z8 : it9 k s9 = s8 := by unfold it9; rw [z1, ← eτ2, hs8]; first | (rw [if_pos (by omega), show i = 4 by omega]; done) | (rw [if_neg (by omega), show i = 0 by omega]; rfl)
                    have zm := ps_it9 hp9 k
                    rw [z8] at zm
                    have zg := hg h27
                    have zr9 := hr9
                    rw [if_pos h27, alw_s (by omega) z8] at zr9
                    refine hv_iinc C 1 1 [(1, .int (iz (((k : Nat) : Int) + 1))), (0, .ref a0), (2, .int (iz (xb (more)))), (3, .int (iz ((i : Nat) : Int)))] dX12_aLine_78 rfl (by decide) rfl ?_
                    refine hv_aload_n C 0 1 dX12_aLine_81 rfl rfl ?_
                    refine hv_bipush C dX12_aLine_82 (by decide) ?_
                    refine mo_call [.int (iz 31)] [] C K (k_takes l s8 31 (by assumption) (by omega)) ck_takes (by decide) rfl (Nat.le_of_ble_eq_true rfl) dX12_aLine_84 ?_
                    refine hv_istore_n C 2 [(2, .int (iz (xb (decide (s8 0 9 = 0 ∧ s8 0 5 = 3 ∧ s8 0 8 = 31))))), (1, .int (iz (((k : Nat) : Int) + 1))), (0, .ref a0), (3, .int (iz ((i : Nat) : Int)))] dX12_aLine_87 rfl (by decide) rfl ?_
                    refine hv_goto C 26 dX12_aLine_88 (by decide) ?_
                    refine hv_loc [2, 1, 0] [(0, .ref a0), (1, .int (iz (((k : Nat) : Int) + 1))), (2, .int (iz (xb (decide (s8 0 9 = 0 ∧ s8 0 5 = 3 ∧ s8 0 8 = 31)))))] rfl ?_
                    exact ih26 (decide (s8 0 9 = 0 ∧ s8 0 5 = 3 ∧ s8 0 8 = 31)) (k + 1) (tkS s8 31) (g - 1) (by have zg1 := hg h27; omega) (ps_tk hp8 31).1 ⟨fun zt => by have zc9 : (s8 0 9 = 0 ∧ s8 0 5 = 3 ∧ s8 0 8 = 31) := of_decide_eq_true zt; have z2 := mu_ad hp8 (by omega); rw [show tkS s8 31 = adS s8 from if_pos zc9]; have z4 := zm.2.2; have z5 := hk9.1 h27; omega, by have z5 := hk9.1 h27; omega⟩ (fun zt => by have zc9 : (s8 0 9 = 0 ∧ s8 0 5 = 3 ∧ s8 0 8 = 31) := of_decide_eq_true zt; have z2 := mu_ad hp8 (by omega); rw [show tkS s8 31 = adS s8 from if_pos zc9]; have z4 := zm.2.2; omega) (by rw [← zr9]; by_cases zc9 : (s8 0 9 = 0 ∧ s8 0 5 = 3 ∧ s8 0 8 = 31); (rw [if_pos (decide_eq_true zc9), if_pos zc9, show tkS s8 31 = adS s8 from if_pos zc9]); (rw [if_neg (by rw [decide_eq_false zc9]; decide), if_neg zc9, show tkS s8 31 = s8 from if_neg zc9]))
                  · skip
                    refine hv_iload_n C 1 1 dX12_aLine_50 rfl rfl ?_
                    refine hv_iconst C dX12_aLine_51 ?_
                    refine hv_icmp_ge C 78 dX12_aLine_52 (by decide) (by omega) (by omega) (fun h52 => ?_) (fun h52 => ?_)
                    · skip
                      have z8 : it9 k s9 = s8 := by unfold it9; rw [z1, ← eτ2, hs8]; first | (rw [if_pos (by omega), show i = 4 by omega]; done) | (rw [if_neg (by omega), show i = 0 by omega]; rfl)
                      have zm := ps_it9 hp9 k
                      rw [z8] at zm
                      have zg := hg h27
                      have zr9 := hr9
                      rw [if_pos h27, alw_s (by omega) z8] at zr9
                      refine hv_iinc C 1 1 [(1, .int (iz (((k : Nat) : Int) + 1))), (0, .ref a0), (2, .int (iz (xb (more)))), (3, .int (iz ((i : Nat) : Int)))] dX12_aLine_78 rfl (by decide) rfl ?_
                      refine hv_aload_n C 0 1 dX12_aLine_81 rfl rfl ?_
                      refine hv_bipush C dX12_aLine_82 (by decide) ?_
                      refine mo_call [.int (iz 31)] [] C K (k_takes l s8 31 (by assumption) (by omega)) ck_takes (by decide) rfl (Nat.le_of_ble_eq_true rfl) dX12_aLine_84 ?_
                      refine hv_istore_n C 2 [(2, .int (iz (xb (decide (s8 0 9 = 0 ∧ s8 0 5 = 3 ∧ s8 0 8 = 31))))), (1, .int (iz (((k : Nat) : Int) + 1))), (0, .ref a0), (3, .int (iz ((i : Nat) : Int)))] dX12_aLine_87 rfl (by decide) rfl ?_
                      refine hv_goto C 26 dX12_aLine_88 (by decide) ?_
                      refine hv_loc [2, 1, 0] [(0, .ref a0), (1, .int (iz (((k : Nat) : Int) + 1))), (2, .int (iz (xb (decide (s8 0 9 = 0 ∧ s8 0 5 = 3 ∧ s8 0 8 = 31)))))] rfl ?_
                      exact ih26 (decide (s8 0 9 = 0 ∧ s8 0 5 = 3 ∧ s8 0 8 = 31)) (k + 1) (tkS s8 31) (g - 1) (by have zg1 := hg h27; omega) (ps_tk hp8 31).1 ⟨fun zt => by have zc9 : (s8 0 9 = 0 ∧ s8 0 5 = 3 ∧ s8 0 8 = 31) := of_decide_eq_true zt; have z2 := mu_ad hp8 (by omega); rw [show tkS s8 31 = adS s8 from if_pos zc9]; have z4 := zm.2.2; have z5 := hk9.1 h27; omega, by have z5 := hk9.1 h27; omega⟩ (fun zt => by have zc9 : (s8 0 9 = 0 ∧ s8 0 5 = 3 ∧ s8 0 8 = 31) := of_decide_eq_true zt; have z2 := mu_ad hp8 (by omega); rw [show tkS s8 31 = adS s8 from if_pos zc9]; have z4 := zm.2.2; omega) (by rw [← zr9]; by_cases zc9 : (s8 0 9 = 0 ∧ s8 0 5 = 3 ∧ s8 0 8 = 31); (rw [if_pos (decide_eq_true zc9), if_pos zc9, show tkS s8 31 = adS s8 from if_pos zc9]); (rw [if_neg (by rw [decide_eq_false zc9]; decide), if_neg zc9, show tkS s8 31 = s8 from if_neg zc9]))
                    · skip
                      refine hv_aload_n C 0 0 dX12_aLine_55 rfl rfl ?_
                      refine hv_iconst C dX12_aLine_56 ?_
                      refine hv_iconst C dX12_aLine_57 ?_
                      refine hv_iload_n C 1 1 dX12_aLine_58 rfl rfl ?_
                      refine hv_imul C dX12_aLine_59 ?_
                      refine hv_iadd C dX12_aLine_60 ?_
                      refine hv_iload_n C 3 3 dX12_aLine_61 rfl rfl ?_
                      refine hv_iadd C dX12_aLine_62 ?_
                      refine hv_aload_n C 0 0 dX12_aLine_63 rfl rfl ?_
                      refine mo_geta C K 12 4 (by decide) rfl mo_hw fl_20 rfl dX12_aLine_64 ?_
                      refine hv_iload_n C 3 3 dX12_aLine_67 rfl rfl ?_
                      refine mo_iald C K 4 4 i rfl (by omega) (by omega) (by decide) dX12_aLine_68 ?_
                      refine hv_as ((s8 4 i)) rfl ?_
                      refine mo_call [.int (iz ((1 + (4 * ((k : Nat) : Int))) + ((i : Nat) : Int))), .int (iz (s8 4 i))] [] C K (k_puts l s8 ((1 + (4 * k)) + i) (s8 4 i) (by repeat (first | assumption | refine rg_sA ?_ ?_ | refine in_ua ?_ (by omega) | exact fun _ => hσ _ _)) (by omega) (by omega)) ck_puts (by decide) rfl (Nat.le_of_ble_eq_true rfl) dX12_aLine_69 ?_
                      refine hv_iinc C 3 3 [(3, .int (iz (((i : Nat) : Int) + 1))), (0, .ref a0), (1, .int (iz ((k : Nat) : Int))), (2, .int (iz (xb (more))))] dX12_aLine_72 rfl (by decide) rfl ?_
                      refine hv_goto C 45 dX12_aLine_75 (by decide) ?_
                      refine hv_loc [1, 2, 3, 0] [(0, .ref a0), (1, .int (iz ((k : Nat) : Int))), (2, .int (iz (xb (more)))), (3, .int (iz (((i : Nat) : Int) + 1)))] rfl ?_
                      exact ih45 (i + 1) (puS s8 ((1 + (4 * k)) + i) (s8 4 i)) (by omega) (by have zq9 := (ps_pu hp8 (1 + 4 * k + i) (hp8.1 4 i)); exact zq9.1) (by omega) (by omega) (by rw [hs8]; rfl)
              refine hv_loc [1, 2, 3, 0] [(0, .ref a0), (1, .int (iz ((k : Nat) : Int))), (2, .int (iz (xb (more)))), (3, .int (iz 0))] rfl ?_
              exact L45 _ 0 τ2 (Nat.lt_succ_self _) pτ2 (by omega) (by omega) rfl
      refine hv_loc [2, 1, 0] [(0, .ref a0), (1, .int (iz 0)), (2, .int (iz 1))] rfl ?_
      exact L26 _ true 0 (adS τ0) fu9 (Nat.lt_succ_self _) (pI_ad pτ0) ⟨fun _ => by have z := mu_le (pI_ad pτ0); omega, by omega⟩ (fun _ => by have z := mu_le (pI_ad pτ0); unfold fu9; omega) (if_pos rfl)
  · skip
    refine hv_aload_n C 0 0 dX12_aLine_9 rfl rfl ?_
    refine mo_call [] [] C K (k_also l σ  hσ) ck_also (by decide) rfl (Nat.le_of_ble_eq_true rfl) dX12_aLine_10 ?_
    obtain ⟨τ0, eτ0⟩ : ∃ xq9, xq9 = (alS σ) := ⟨_, rfl⟩
    refine mo_st eτ0.symm ?_
    have pτ0 : pI τ0 := by rw [eτ0]; exact (by first | exact hp | exact (ps_al hp).1)
    have rτ0 : rg τ0 := pτ0.1
    have lτ0 := pτ0.2.2.2
    have z0 : ln0 σ = τ0 := by rw [eτ0]; first | exact if_pos (by omega) | exact if_neg (by omega)
    refine hv_iconst C dX12_aLine_13 ?_
    refine hv_istore_n C 1 [(1, .int (iz 0)), (0, .ref a0)] dX12_aLine_14 rfl (by decide) rfl ?_
    refine hv_aload_n C 0 1 dX12_aLine_15 rfl rfl ?_
    refine hv_bipush C dX12_aLine_16 (by decide) ?_
    refine mo_call [.int (iz 30)] [] C K (k_takes l τ0 30 (by assumption) (by omega)) ck_takes (by decide) rfl (Nat.le_of_ble_eq_true rfl) dX12_aLine_18 ?_
    refine hv_dif_eq C 97 dX12_aLine_21 (by decide)  (fun h21 => ?_) (fun h21 => ?_)
    · skip
      refine mo_st (σ2 := τ0) (if_neg h21) ?_
      obtain ⟨τ5, eτ5⟩ : ∃ xq9, xq9 = τ0 := ⟨_, rfl⟩
      refine mo_st eτ5.symm ?_
      have pτ5 : pI τ5 := by rw [eτ5]; exact (by first | exact pτ0 | exact (ps_mu hp9 58).1)
      have rτ5 : rg τ5 := pτ5.1
      have lτ5 := pτ5.2.2.2
      have z5 : ln1 (ln0 σ) = (0, τ5) := by rw [z0, eτ5]; unfold ln1; first | (rw [if_pos h21, ← zr9]; done) | (rw [if_neg h21]; done)
      refine hv_aload_n C 0 1 dX12_aLine_97 rfl rfl ?_
      refine mo_geti C K (x := τ5 0 9) 9 (by decide) rfl mo_hw fl_152 rfl dX12_aLine_98 ?_
      refine hv_nm (fun x10 ex10 => ?_)
      have rx10 : inI x10 := by rw [ex10]; exact rτ5 0 9
      refine hv_if_ne C 126 dX12_aLine_101 (by decide) (by omega) (fun h101 => ?_) (fun h101 => ?_)
      · skip
        refine hv_aload_n C 0 1 dX12_aLine_126 rfl rfl ?_
        refine mo_call [] [] C K (k_stops l τ5  (by repeat (first | assumption | refine rg_sA ?_ ?_ | refine in_ua ?_ (by omega) | exact fun _ => hσ _ _))) ck_stops (by decide) rfl (Nat.le_of_ble_eq_true rfl) dX12_aLine_127 ?_
        exact mo_vret (Qc := fun _ _ _ _ => True) C hr hlk (by first | (unfold lnS; rw [z5]; exact (if_neg (show ¬ (τ5 0 9 = 0 ∧ τ5 0 5 = 3 ∧ (20 ≤ τ5 0 8 ∧ τ5 0 8 ≤ 22)) by omega)).symm) | (rw [zS7]; unfold ln5; rw [eτ11, eτ10, eτ9, eτ8, eτ7]; rfl)) dX12_aLine_130
      · skip
        refine hv_aload_n C 0 1 dX12_aLine_104 rfl rfl ?_
        refine mo_geti C K (x := τ5 0 5) 5 (by decide) rfl mo_hw fl_127 rfl dX12_aLine_105 ?_
        refine hv_nm (fun x11 ex11 => ?_)
        have rx11 : inI x11 := by rw [ex11]; exact rτ5 0 5
        refine hv_iconst C dX12_aLine_108 ?_
        refine hv_icmp_ne C 126 dX12_aLine_109 (by decide) (by omega) (by omega) (fun h109 => ?_) (fun h109 => ?_)
        · skip
          refine hv_aload_n C 0 1 dX12_aLine_126 rfl rfl ?_
          refine mo_call [] [] C K (k_stops l τ5  (by repeat (first | assumption | refine rg_sA ?_ ?_ | refine in_ua ?_ (by omega) | exact fun _ => hσ _ _))) ck_stops (by decide) rfl (Nat.le_of_ble_eq_true rfl) dX12_aLine_127 ?_
          exact mo_vret (Qc := fun _ _ _ _ => True) C hr hlk (by first | (unfold lnS; rw [z5]; exact (if_neg (show ¬ (τ5 0 9 = 0 ∧ τ5 0 5 = 3 ∧ (20 ≤ τ5 0 8 ∧ τ5 0 8 ≤ 22)) by omega)).symm) | (rw [zS7]; unfold ln5; rw [eτ11, eτ10, eτ9, eτ8, eτ7]; rfl)) dX12_aLine_130
        · skip
          refine hv_aload_n C 0 1 dX12_aLine_112 rfl rfl ?_
          refine mo_geti C K (x := τ5 0 8) 8 (by decide) rfl mo_hw fl_137 rfl dX12_aLine_113 ?_
          refine hv_nm (fun x12 ex12 => ?_)
          have rx12 : inI x12 := by rw [ex12]; exact rτ5 0 8
          refine hv_bipush C dX12_aLine_116 (by decide) ?_
          refine hv_bipush C dX12_aLine_118 (by decide) ?_
          refine mo_callS [.int (iz x12), .int (iz 20), .int (iz 22)] [] C K (k_isIn l τ5 x12 20 22 (by omega) (by omega) (by omega)) ck_isIn (by decide) rfl (Nat.le_of_ble_eq_true rfl) dX12_aLine_120 ?_
          refine hv_dif_ne C 131 dX12_aLine_123 (by decide)  (fun h123 => ?_) (fun h123 => ?_)
          · skip
            have zS : lnS σ = ln4 0 (τ5 0 8) (adS τ5) := by unfold lnS; rw [z5]; exact if_pos (show τ5 0 9 = 0 ∧ τ5 0 5 = 3 ∧ (20 ≤ τ5 0 8 ∧ τ5 0 8 ≤ 22) by omega)
            refine hv_aload_n C 0 1 dX12_aLine_131 rfl rfl ?_
            refine mo_geti C K (x := τ5 0 8) 8 (by decide) rfl mo_hw fl_137 rfl dX12_aLine_132 ?_
            refine hv_nm (fun x13 ex13 => ?_)
            have rx13 : inI x13 := by rw [ex13]; exact rτ5 0 8
            refine hv_istore_n C 2 [(2, .int (iz x13)), (1, .int (iz 0)), (0, .ref a0)] dX12_aLine_135 rfl (by decide) rfl ?_
            refine hv_aload_n C 0 2 dX12_aLine_136 rfl rfl ?_
            refine mo_call [] [] C K (k_advance l τ5  (by assumption)) ck_advance (by decide) rfl (Nat.le_of_ble_eq_true rfl) dX12_aLine_137 ?_
            obtain ⟨τ6, eτ6⟩ : ∃ xq9, xq9 = (adS τ5) := ⟨_, rfl⟩
            refine mo_st eτ6.symm ?_
            have pτ6 : pI τ6 := by rw [eτ6]; exact pI_ad pτ5
            have rτ6 : rg τ6 := pτ6.1
            have lτ6 := pτ6.2.2.2
            have zS6 : lnS σ = ln4 0 x13 τ6 := by rw [zS, eτ6]; congr 1; omega
            refine hv_iload_n C 2 0 dX12_aLine_140 rfl rfl ?_
            refine hv_bipush C dX12_aLine_141 (by decide) ?_
            refine hv_icmp_ne C 153 dX12_aLine_143 (by decide) (by omega) (by omega) (fun h143 => ?_) (fun h143 => ?_)
            · skip
              refine hv_iconst C dX12_aLine_153 ?_
              refine hv_istore_n C 3 [(3, .int (iz 0)), (2, .int (iz x13)), (1, .int (iz 0)), (0, .ref a0)] dX12_aLine_154 rfl (by decide) rfl ?_
              have zS7 : lnS σ = ln5 0 x13 0 τ6 := by rw [zS6]; first | exact if_pos (by omega) | exact if_neg (by omega)
              have zi3 : inI 0 := by first | decide | exact rτ6 0 6
              obtain ⟨τ7, eτ7⟩ : ∃ xq9, xq9 = τ6 := ⟨_, rfl⟩
              refine mo_st eτ7.symm ?_
              have pτ7 : pI τ7 := by rw [eτ7]; exact (by first | exact pτ6 | exact (ps_nb pτ6).1)
              have rτ7 : rg τ7 := pτ7.1
              have lτ7 := pτ7.2.2.2
              refine hv_aload_n C 0 3 dX12_aLine_155 rfl rfl ?_
              refine hv_bipush C dX12_aLine_156 (by decide) ?_
              refine mo_call [.int (iz 59)] [] C K (k_must l τ7 59 (by assumption) (by omega)) ck_must (by decide) rfl (Nat.le_of_ble_eq_true rfl) dX12_aLine_158 ?_
              obtain ⟨τ8, eτ8⟩ : ∃ xq9, xq9 = (muS τ7 59) := ⟨_, rfl⟩
              refine mo_st eτ8.symm ?_
              have pτ8 : pI τ8 := by rw [eτ8]; exact (ps_mu pτ7 59).1
              have rτ8 : rg τ8 := pτ8.1
              have lτ8 := pτ8.2.2.2
              refine hv_aload_n C 0 3 dX12_aLine_161 rfl rfl ?_
              refine hv_iconst C dX12_aLine_162 ?_
              refine hv_iload_n C 1 2 dX12_aLine_163 rfl rfl ?_
              refine mo_call [.int (iz 0), .int (iz 0)] [] C K (k_puts l τ8 0 0 (by repeat (first | assumption | refine rg_sA ?_ ?_ | refine in_ua ?_ (by omega) | exact fun _ => hσ _ _)) (by omega) (by omega)) ck_puts (by decide) rfl (Nat.le_of_ble_eq_true rfl) dX12_aLine_164 ?_
              obtain ⟨τ9, eτ9⟩ : ∃ xq9, xq9 = (puS τ8 0 0) := ⟨_, rfl⟩
              refine mo_st eτ9.symm ?_
              have pτ9 : pI τ9 := by rw [eτ9]; exact (ps_pu pτ8 _ (by omega)).1
              have rτ9 : rg τ9 := pτ9.1
              have lτ9 := pτ9.2.2.2
              refine hv_aload_n C 0 3 dX12_aLine_167 rfl rfl ?_
              refine hv_bipush C dX12_aLine_168 (by decide) ?_
              refine hv_iload_n C 2 1 dX12_aLine_170 rfl rfl ?_
              refine mo_call [.int (iz 17), .int (iz x13)] [] C K (k_puts l τ9 17 x13 (by repeat (first | assumption | refine rg_sA ?_ ?_ | refine in_ua ?_ (by omega) | exact fun _ => hσ _ _)) (by omega) (by omega)) ck_puts (by decide) rfl (Nat.le_of_ble_eq_true rfl) dX12_aLine_171 ?_
              obtain ⟨τ10, eτ10⟩ : ∃ xq9, xq9 = (puS τ9 17 x13) := ⟨_, rfl⟩
              refine mo_st eτ10.symm ?_
              have pτ10 : pI τ10 := by rw [eτ10]; exact (ps_pu pτ9 _ (by omega)).1
              have rτ10 : rg τ10 := pτ10.1
              have lτ10 := pτ10.2.2.2
              refine hv_aload_n C 0 3 dX12_aLine_174 rfl rfl ?_
              refine hv_bipush C dX12_aLine_175 (by decide) ?_
              refine hv_iload_n C 3 0 dX12_aLine_177 rfl rfl ?_
              refine mo_call [.int (iz 18), .int (iz 0)] [] C K (k_puts l τ10 18 0 (by repeat (first | assumption | refine rg_sA ?_ ?_ | refine in_ua ?_ (by omega) | exact fun _ => hσ _ _)) (by omega) (by omega)) ck_puts (by decide) rfl (Nat.le_of_ble_eq_true rfl) dX12_aLine_178 ?_
              obtain ⟨τ11, eτ11⟩ : ∃ xq9, xq9 = (puS τ10 18 0) := ⟨_, rfl⟩
              refine mo_st eτ11.symm ?_
              have pτ11 : pI τ11 := by rw [eτ11]; exact (ps_pu pτ10 _ (by first | exact zi3 | omega)).1
              have rτ11 : rg τ11 := pτ11.1
              have lτ11 := pτ11.2.2.2
              refine hv_aload_n C 0 3 dX12_aLine_181 rfl rfl ?_
              refine hv_dup C dX12_aLine_182 rfl ?_
              refine mo_geti C K (x := τ11 0 10) 10 (by decide) rfl mo_hw fl_169 rfl dX12_aLine_183 ?_
              refine hv_iconst C dX12_aLine_186 ?_
              refine hv_iadd C dX12_aLine_187 ?_
              refine mo_puti C K (σ2 := u2 τ11 0 10 ((τ11 0 10) + 1)) 10 (by decide) rfl mo_hw fl_169 rfl rfl (ty := .int) (by decide +kernel) rfl rfl dX12_aLine_188 ?_
              exact mo_vret (Qc := fun _ _ _ _ => True) C hr hlk (by first | (unfold lnS; rw [z5]; exact (if_neg (show ¬ (τ5 0 9 = 0 ∧ τ5 0 5 = 3 ∧ (20 ≤ τ5 0 8 ∧ τ5 0 8 ≤ 22)) by omega)).symm) | (rw [zS7]; unfold ln5; rw [eτ11, eτ10, eτ9, eτ8, eτ7]; rfl)) dX12_aLine_191
            · skip
              refine hv_aload_n C 0 2 dX12_aLine_146 rfl rfl ?_
              refine mo_call [] [] C K (k_numbered l τ6  (by assumption)) ck_numbered (by decide) rfl (Nat.le_of_ble_eq_true rfl) dX12_aLine_147 ?_
              refine hv_goto C 154 dX12_aLine_150 (by decide) ?_
              refine hv_istore_n C 3 [(3, .int (iz (τ6 0 6))), (2, .int (iz x13)), (1, .int (iz 0)), (0, .ref a0)] dX12_aLine_154 rfl (by decide) rfl ?_
              have zS7 : lnS σ = ln5 0 x13 (τ6 0 6) (nbS τ6) := by rw [zS6]; first | exact if_pos (by omega) | exact if_neg (by omega)
              have zi3 : inI (τ6 0 6) := by first | decide | exact rτ6 0 6
              obtain ⟨τ7, eτ7⟩ : ∃ xq9, xq9 = (nbS τ6) := ⟨_, rfl⟩
              refine mo_st eτ7.symm ?_
              have pτ7 : pI τ7 := by rw [eτ7]; exact (by first | exact pτ6 | exact (ps_nb pτ6).1)
              have rτ7 : rg τ7 := pτ7.1
              have lτ7 := pτ7.2.2.2
              refine hv_aload_n C 0 3 dX12_aLine_155 rfl rfl ?_
              refine hv_bipush C dX12_aLine_156 (by decide) ?_
              refine mo_call [.int (iz 59)] [] C K (k_must l τ7 59 (by assumption) (by omega)) ck_must (by decide) rfl (Nat.le_of_ble_eq_true rfl) dX12_aLine_158 ?_
              obtain ⟨τ8, eτ8⟩ : ∃ xq9, xq9 = (muS τ7 59) := ⟨_, rfl⟩
              refine mo_st eτ8.symm ?_
              have pτ8 : pI τ8 := by rw [eτ8]; exact (ps_mu pτ7 59).1
              have rτ8 : rg τ8 := pτ8.1
              have lτ8 := pτ8.2.2.2
              refine hv_aload_n C 0 3 dX12_aLine_161 rfl rfl ?_
              refine hv_iconst C dX12_aLine_162 ?_
              refine hv_iload_n C 1 2 dX12_aLine_163 rfl rfl ?_
              refine mo_call [.int (iz 0), .int (iz 0)] [] C K (k_puts l τ8 0 0 (by repeat (first | assumption | refine rg_sA ?_ ?_ | refine in_ua ?_ (by omega) | exact fun _ => hσ _ _)) (by omega) (by omega)) ck_puts (by decide) rfl (Nat.le_of_ble_eq_true rfl) dX12_aLine_164 ?_
              obtain ⟨τ9, eτ9⟩ : ∃ xq9, xq9 = (puS τ8 0 0) := ⟨_, rfl⟩
              refine mo_st eτ9.symm ?_
              have pτ9 : pI τ9 := by rw [eτ9]; exact (ps_pu pτ8 _ (by omega)).1
              have rτ9 : rg τ9 := pτ9.1
              have lτ9 := pτ9.2.2.2
              refine hv_aload_n C 0 3 dX12_aLine_167 rfl rfl ?_
              refine hv_bipush C dX12_aLine_168 (by decide) ?_
              refine hv_iload_n C 2 1 dX12_aLine_170 rfl rfl ?_
              refine mo_call [.int (iz 17), .int (iz x13)] [] C K (k_puts l τ9 17 x13 (by repeat (first | assumption | refine rg_sA ?_ ?_ | refine in_ua ?_ (by omega) | exact fun _ => hσ _ _)) (by omega) (by omega)) ck_puts (by decide) rfl (Nat.le_of_ble_eq_true rfl) dX12_aLine_171 ?_
              obtain ⟨τ10, eτ10⟩ : ∃ xq9, xq9 = (puS τ9 17 x13) := ⟨_, rfl⟩
              refine mo_st eτ10.symm ?_
              have pτ10 : pI τ10 := by rw [eτ10]; exact (ps_pu pτ9 _ (by omega)).1
              have rτ10 : rg τ10 := pτ10.1
              have lτ10 := pτ10.2.2.2
              refine hv_aload_n C 0 3 dX12_aLine_174 rfl rfl ?_
              refine hv_bipush C dX12_aLine_175 (by decide) ?_
              refine hv_iload_n C 3 0 dX12_aLine_177 rfl rfl ?_
              refine mo_call [.int (iz 18), .int (iz (τ6 0 6))] [] C K (k_puts l τ10 18 (τ6 0 6) (by repeat (first | assumption | refine rg_sA ?_ ?_ | refine in_ua ?_ (by omega) | exact fun _ => hσ _ _)) (by omega) (by omega)) ck_puts (by decide) rfl (Nat.le_of_ble_eq_true rfl) dX12_aLine_178 ?_
              obtain ⟨τ11, eτ11⟩ : ∃ xq9, xq9 = (puS τ10 18 (τ6 0 6)) := ⟨_, rfl⟩
              refine mo_st eτ11.symm ?_
              have pτ11 : pI τ11 := by rw [eτ11]; exact (ps_pu pτ10 _ (by first | exact zi3 | omega)).1
              have rτ11 : rg τ11 := pτ11.1
              have lτ11 := pτ11.2.2.2
              refine hv_aload_n C 0 3 dX12_aLine_181 rfl rfl ?_
              refine hv_dup C dX12_aLine_182 rfl ?_
              refine mo_geti C K (x := τ11 0 10) 10 (by decide) rfl mo_hw fl_169 rfl dX12_aLine_183 ?_
              refine hv_iconst C dX12_aLine_186 ?_
              refine hv_iadd C dX12_aLine_187 ?_
              refine mo_puti C K (σ2 := u2 τ11 0 10 ((τ11 0 10) + 1)) 10 (by decide) rfl mo_hw fl_169 rfl rfl (ty := .int) (by decide +kernel) rfl rfl dX12_aLine_188 ?_
              exact mo_vret (Qc := fun _ _ _ _ => True) C hr hlk (by first | (unfold lnS; rw [z5]; exact (if_neg (show ¬ (τ5 0 9 = 0 ∧ τ5 0 5 = 3 ∧ (20 ≤ τ5 0 8 ∧ τ5 0 8 ≤ 22)) by omega)).symm) | (rw [zS7]; unfold ln5; rw [eτ11, eτ10, eτ9, eτ8, eτ7]; rfl)) dX12_aLine_191
          · skip
            refine hv_aload_n C 0 1 dX12_aLine_126 rfl rfl ?_
            refine mo_call [] [] C K (k_stops l τ5  (by repeat (first | assumption | refine rg_sA ?_ ?_ | refine in_ua ?_ (by omega) | exact fun _ => hσ _ _))) ck_stops (by decide) rfl (Nat.le_of_ble_eq_true rfl) dX12_aLine_127 ?_
            exact mo_vret (Qc := fun _ _ _ _ => True) C hr hlk (by first | (unfold lnS; rw [z5]; exact (if_neg (show ¬ (τ5 0 9 = 0 ∧ τ5 0 5 = 3 ∧ (20 ≤ τ5 0 8 ∧ τ5 0 8 ≤ 22)) by omega)).symm) | (rw [zS7]; unfold ln5; rw [eτ11, eτ10, eτ9, eτ8, eτ7]; rfl)) dX12_aLine_130
    · skip
      refine mo_st (σ2 := adS τ0) (if_pos h21) ?_
      refine hv_iconst C dX12_aLine_24 ?_
      refine hv_istore_n C 2 [(2, .int (iz 1)), (1, .int (iz 0)), (0, .ref a0)] dX12_aLine_25 rfl (by decide) rfl ?_
      have L26 : ∀ (f : Nat) (more : Bool) (k : Nat) (s9 : Nat → Nat → Int) (g : Nat), g < f → pI s9 → ((more = true → k + mu9 s9 ≤ 600) ∧ k ≤ 601) → (more = true → mu9 s9 < g) → (if more = true then alw g k s9 else (k, s9)) = alw fu9 0 (adS τ0) → hvV p l e { frames := 6, cells := 0, slots := 0, locals := 130 } s m args below meth c 4 (moR a0) 0 0 (MQ below (moQ D cI cZ a0 none (lnS σ)) args s 0 0 (moR a0)) (moI D cI cZ a0 s.heap s9) 26 [(0, .ref a0), (1, .int (iz ((k : Nat) : Int))), (2, .int (iz (xb (more))))] [] := by
        intro f
        induction f with
        | zero => intro _ _ _ _ hm; exact absurd hm (Nat.not_lt_zero _)
        | succ f ih26 =>
          intro more k s9 g hm26 hp9 hk9 hg hr9
          have zq9s : rg s9 := hp9.1
          have zl9 := hp9.2.2.2
          refine hv_iload_n C 2 2 dX12_aLine_26 rfl rfl ?_
          refine hv_bif_eq C 91 dX12_aLine_27 (by decide)  (fun h27 => ?_) (fun h27 => ?_)
          · skip
            have zr9 := hr9
            rw [if_neg (by rw [h27]; decide)] at zr9
            refine hv_aload_n C 0 0 dX12_aLine_91 rfl rfl ?_
            refine hv_bipush C dX12_aLine_92 (by decide) ?_
            refine mo_call [.int (iz 58)] [] C K (k_must l s9 58 (by assumption) (by omega)) ck_must (by decide) rfl (Nat.le_of_ble_eq_true rfl) dX12_aLine_94 ?_
            obtain ⟨τ5, eτ5⟩ : ∃ xq9, xq9 = (muS s9 58) := ⟨_, rfl⟩
            refine mo_st eτ5.symm ?_
            have pτ5 : pI τ5 := by rw [eτ5]; exact (by first | exact pτ0 | exact (ps_mu hp9 58).1)
            have rτ5 : rg τ5 := pτ5.1
            have lτ5 := pτ5.2.2.2
            have z5 : ln1 (ln0 σ) = (k, τ5) := by rw [z0, eτ5]; unfold ln1; first | (rw [if_pos h21, ← zr9]; done) | (rw [if_neg h21]; done)
            refine hv_aload_n C 0 0 dX12_aLine_97 rfl rfl ?_
            refine mo_geti C K (x := τ5 0 9) 9 (by decide) rfl mo_hw fl_152 rfl dX12_aLine_98 ?_
            refine hv_nm (fun x14 ex14 => ?_)
            have rx14 : inI x14 := by rw [ex14]; exact rτ5 0 9
            refine hv_if_ne C 126 dX12_aLine_101 (by decide) (by omega) (fun h101 => ?_) (fun h101 => ?_)
            · skip
              refine hv_aload_n C 0 0 dX12_aLine_126 rfl rfl ?_
              refine mo_call [] [] C K (k_stops l τ5  (by repeat (first | assumption | refine rg_sA ?_ ?_ | refine in_ua ?_ (by omega) | exact fun _ => hσ _ _))) ck_stops (by decide) rfl (Nat.le_of_ble_eq_true rfl) dX12_aLine_127 ?_
              exact mo_vret (Qc := fun _ _ _ _ => True) C hr hlk (by first | (unfold lnS; rw [z5]; exact (if_neg (show ¬ (τ5 0 9 = 0 ∧ τ5 0 5 = 3 ∧ (20 ≤ τ5 0 8 ∧ τ5 0 8 ≤ 22)) by omega)).symm) | (rw [zS7]; unfold ln5; rw [eτ11, eτ10, eτ9, eτ8, eτ7]; rfl)) dX12_aLine_130
            · skip
              refine hv_aload_n C 0 0 dX12_aLine_104 rfl rfl ?_
              refine mo_geti C K (x := τ5 0 5) 5 (by decide) rfl mo_hw fl_127 rfl dX12_aLine_105 ?_
              refine hv_nm (fun x15 ex15 => ?_)
              have rx15 : inI x15 := by rw [ex15]; exact rτ5 0 5
              refine hv_iconst C dX12_aLine_108 ?_
              refine hv_icmp_ne C 126 dX12_aLine_109 (by decide) (by omega) (by omega) (fun h109 => ?_) (fun h109 => ?_)
              · skip
                refine hv_aload_n C 0 0 dX12_aLine_126 rfl rfl ?_
                refine mo_call [] [] C K (k_stops l τ5  (by repeat (first | assumption | refine rg_sA ?_ ?_ | refine in_ua ?_ (by omega) | exact fun _ => hσ _ _))) ck_stops (by decide) rfl (Nat.le_of_ble_eq_true rfl) dX12_aLine_127 ?_
                exact mo_vret (Qc := fun _ _ _ _ => True) C hr hlk (by first | (unfold lnS; rw [z5]; exact (if_neg (show ¬ (τ5 0 9 = 0 ∧ τ5 0 5 = 3 ∧ (20 ≤ τ5 0 8 ∧ τ5 0 8 ≤ 22)) by omega)).symm) | (rw [zS7]; unfold ln5; rw [eτ11, eτ10, eτ9, eτ8, eτ7]; rfl)) dX12_aLine_130
              · skip
                refine hv_aload_n C 0 0 dX12_aLine_112 rfl rfl ?_
                refine mo_geti C K (x := τ5 0 8) 8 (by decide) rfl mo_hw fl_137 rfl dX12_aLine_113 ?_
                refine hv_nm (fun x16 ex16 => ?_)
                have rx16 : inI x16 := by rw [ex16]; exact rτ5 0 8
                refine hv_bipush C dX12_aLine_116 (by decide) ?_
                refine hv_bipush C dX12_aLine_118 (by decide) ?_
                refine mo_callS [.int (iz x16), .int (iz 20), .int (iz 22)] [] C K (k_isIn l τ5 x16 20 22 (by omega) (by omega) (by omega)) ck_isIn (by decide) rfl (Nat.le_of_ble_eq_true rfl) dX12_aLine_120 ?_
                refine hv_dif_ne C 131 dX12_aLine_123 (by decide)  (fun h123 => ?_) (fun h123 => ?_)
                · skip
                  have zS : lnS σ = ln4 k (τ5 0 8) (adS τ5) := by unfold lnS; rw [z5]; exact if_pos (show τ5 0 9 = 0 ∧ τ5 0 5 = 3 ∧ (20 ≤ τ5 0 8 ∧ τ5 0 8 ≤ 22) by omega)
                  refine hv_aload_n C 0 0 dX12_aLine_131 rfl rfl ?_
                  refine mo_geti C K (x := τ5 0 8) 8 (by decide) rfl mo_hw fl_137 rfl dX12_aLine_132 ?_
                  refine hv_nm (fun x17 ex17 => ?_)
                  have rx17 : inI x17 := by rw [ex17]; exact rτ5 0 8
                  refine hv_istore_n C 2 [(2, .int (iz x17)), (0, .ref a0), (1, .int (iz ((k : Nat) : Int)))] dX12_aLine_135 rfl (by decide) rfl ?_
                  refine hv_aload_n C 0 1 dX12_aLine_136 rfl rfl ?_
                  refine mo_call [] [] C K (k_advance l τ5  (by assumption)) ck_advance (by decide) rfl (Nat.le_of_ble_eq_true rfl) dX12_aLine_137 ?_
                  obtain ⟨τ6, eτ6⟩ : ∃ xq9, xq9 = (adS τ5) := ⟨_, rfl⟩
                  refine mo_st eτ6.symm ?_
                  have pτ6 : pI τ6 := by rw [eτ6]; exact pI_ad pτ5
                  have rτ6 : rg τ6 := pτ6.1
                  have lτ6 := pτ6.2.2.2
                  have zS6 : lnS σ = ln4 k x17 τ6 := by rw [zS, eτ6]; congr 1; omega
                  refine hv_iload_n C 2 0 dX12_aLine_140 rfl rfl ?_
                  refine hv_bipush C dX12_aLine_141 (by decide) ?_
                  refine hv_icmp_ne C 153 dX12_aLine_143 (by decide) (by omega) (by omega) (fun h143 => ?_) (fun h143 => ?_)
                  · skip
                    refine hv_iconst C dX12_aLine_153 ?_
                    refine hv_istore_n C 3 [(3, .int (iz 0)), (2, .int (iz x17)), (0, .ref a0), (1, .int (iz ((k : Nat) : Int)))] dX12_aLine_154 rfl (by decide) rfl ?_
                    have zS7 : lnS σ = ln5 k x17 0 τ6 := by rw [zS6]; first | exact if_pos (by omega) | exact if_neg (by omega)
                    have zi3 : inI 0 := by first | decide | exact rτ6 0 6
                    obtain ⟨τ7, eτ7⟩ : ∃ xq9, xq9 = τ6 := ⟨_, rfl⟩
                    refine mo_st eτ7.symm ?_
                    have pτ7 : pI τ7 := by rw [eτ7]; exact (by first | exact pτ6 | exact (ps_nb pτ6).1)
                    have rτ7 : rg τ7 := pτ7.1
                    have lτ7 := pτ7.2.2.2
                    refine hv_aload_n C 0 2 dX12_aLine_155 rfl rfl ?_
                    refine hv_bipush C dX12_aLine_156 (by decide) ?_
                    refine mo_call [.int (iz 59)] [] C K (k_must l τ7 59 (by assumption) (by omega)) ck_must (by decide) rfl (Nat.le_of_ble_eq_true rfl) dX12_aLine_158 ?_
                    obtain ⟨τ8, eτ8⟩ : ∃ xq9, xq9 = (muS τ7 59) := ⟨_, rfl⟩
                    refine mo_st eτ8.symm ?_
                    have pτ8 : pI τ8 := by rw [eτ8]; exact (ps_mu pτ7 59).1
                    have rτ8 : rg τ8 := pτ8.1
                    have lτ8 := pτ8.2.2.2
                    refine hv_aload_n C 0 2 dX12_aLine_161 rfl rfl ?_
                    refine hv_iconst C dX12_aLine_162 ?_
                    refine hv_iload_n C 1 3 dX12_aLine_163 rfl rfl ?_
                    refine mo_call [.int (iz 0), .int (iz ((k : Nat) : Int))] [] C K (k_puts l τ8 0 ((k : Nat) : Int) (by repeat (first | assumption | refine rg_sA ?_ ?_ | refine in_ua ?_ (by omega) | exact fun _ => hσ _ _)) (by omega) (by omega)) ck_puts (by decide) rfl (Nat.le_of_ble_eq_true rfl) dX12_aLine_164 ?_
                    obtain ⟨τ9, eτ9⟩ : ∃ xq9, xq9 = (puS τ8 0 ((k : Nat) : Int)) := ⟨_, rfl⟩
                    refine mo_st eτ9.symm ?_
                    have pτ9 : pI τ9 := by rw [eτ9]; exact (ps_pu pτ8 _ (by omega)).1
                    have rτ9 : rg τ9 := pτ9.1
                    have lτ9 := pτ9.2.2.2
                    refine hv_aload_n C 0 2 dX12_aLine_167 rfl rfl ?_
                    refine hv_bipush C dX12_aLine_168 (by decide) ?_
                    refine hv_iload_n C 2 1 dX12_aLine_170 rfl rfl ?_
                    refine mo_call [.int (iz 17), .int (iz x17)] [] C K (k_puts l τ9 17 x17 (by repeat (first | assumption | refine rg_sA ?_ ?_ | refine in_ua ?_ (by omega) | exact fun _ => hσ _ _)) (by omega) (by omega)) ck_puts (by decide) rfl (Nat.le_of_ble_eq_true rfl) dX12_aLine_171 ?_
                    obtain ⟨τ10, eτ10⟩ : ∃ xq9, xq9 = (puS τ9 17 x17) := ⟨_, rfl⟩
                    refine mo_st eτ10.symm ?_
                    have pτ10 : pI τ10 := by rw [eτ10]; exact (ps_pu pτ9 _ (by omega)).1
                    have rτ10 : rg τ10 := pτ10.1
                    have lτ10 := pτ10.2.2.2
                    refine hv_aload_n C 0 2 dX12_aLine_174 rfl rfl ?_
                    refine hv_bipush C dX12_aLine_175 (by decide) ?_
                    refine hv_iload_n C 3 0 dX12_aLine_177 rfl rfl ?_
                    refine mo_call [.int (iz 18), .int (iz 0)] [] C K (k_puts l τ10 18 0 (by repeat (first | assumption | refine rg_sA ?_ ?_ | refine in_ua ?_ (by omega) | exact fun _ => hσ _ _)) (by omega) (by omega)) ck_puts (by decide) rfl (Nat.le_of_ble_eq_true rfl) dX12_aLine_178 ?_
                    obtain ⟨τ11, eτ11⟩ : ∃ xq9, xq9 = (puS τ10 18 0) := ⟨_, rfl⟩
                    refine mo_st eτ11.symm ?_
                    have pτ11 : pI τ11 := by rw [eτ11]; exact (ps_pu pτ10 _ (by first | exact zi3 | omega)).1
                    have rτ11 : rg τ11 := pτ11.1
                    have lτ11 := pτ11.2.2.2
                    refine hv_aload_n C 0 2 dX12_aLine_181 rfl rfl ?_
                    refine hv_dup C dX12_aLine_182 rfl ?_
                    refine mo_geti C K (x := τ11 0 10) 10 (by decide) rfl mo_hw fl_169 rfl dX12_aLine_183 ?_
                    refine hv_iconst C dX12_aLine_186 ?_
                    refine hv_iadd C dX12_aLine_187 ?_
                    refine mo_puti C K (σ2 := u2 τ11 0 10 ((τ11 0 10) + 1)) 10 (by decide) rfl mo_hw fl_169 rfl rfl (ty := .int) (by decide +kernel) rfl rfl dX12_aLine_188 ?_
                    exact mo_vret (Qc := fun _ _ _ _ => True) C hr hlk (by first | (unfold lnS; rw [z5]; exact (if_neg (show ¬ (τ5 0 9 = 0 ∧ τ5 0 5 = 3 ∧ (20 ≤ τ5 0 8 ∧ τ5 0 8 ≤ 22)) by omega)).symm) | (rw [zS7]; unfold ln5; rw [eτ11, eτ10, eτ9, eτ8, eτ7]; rfl)) dX12_aLine_191
                  · skip
                    refine hv_aload_n C 0 1 dX12_aLine_146 rfl rfl ?_
                    refine mo_call [] [] C K (k_numbered l τ6  (by assumption)) ck_numbered (by decide) rfl (Nat.le_of_ble_eq_true rfl) dX12_aLine_147 ?_
                    refine hv_goto C 154 dX12_aLine_150 (by decide) ?_
                    refine hv_istore_n C 3 [(3, .int (iz (τ6 0 6))), (2, .int (iz x17)), (0, .ref a0), (1, .int (iz ((k : Nat) : Int)))] dX12_aLine_154 rfl (by decide) rfl ?_
                    have zS7 : lnS σ = ln5 k x17 (τ6 0 6) (nbS τ6) := by rw [zS6]; first | exact if_pos (by omega) | exact if_neg (by omega)
                    have zi3 : inI (τ6 0 6) := by first | decide | exact rτ6 0 6
                    obtain ⟨τ7, eτ7⟩ : ∃ xq9, xq9 = (nbS τ6) := ⟨_, rfl⟩
                    refine mo_st eτ7.symm ?_
                    have pτ7 : pI τ7 := by rw [eτ7]; exact (by first | exact pτ6 | exact (ps_nb pτ6).1)
                    have rτ7 : rg τ7 := pτ7.1
                    have lτ7 := pτ7.2.2.2
                    refine hv_aload_n C 0 2 dX12_aLine_155 rfl rfl ?_
                    refine hv_bipush C dX12_aLine_156 (by decide) ?_
                    refine mo_call [.int (iz 59)] [] C K (k_must l τ7 59 (by assumption) (by omega)) ck_must (by decide) rfl (Nat.le_of_ble_eq_true rfl) dX12_aLine_158 ?_
                    obtain ⟨τ8, eτ8⟩ : ∃ xq9, xq9 = (muS τ7 59) := ⟨_, rfl⟩
                    refine mo_st eτ8.symm ?_
                    have pτ8 : pI τ8 := by rw [eτ8]; exact (ps_mu pτ7 59).1
                    have rτ8 : rg τ8 := pτ8.1
                    have lτ8 := pτ8.2.2.2
                    refine hv_aload_n C 0 2 dX12_aLine_161 rfl rfl ?_
                    refine hv_iconst C dX12_aLine_162 ?_
                    refine hv_iload_n C 1 3 dX12_aLine_163 rfl rfl ?_
                    refine mo_call [.int (iz 0), .int (iz ((k : Nat) : Int))] [] C K (k_puts l τ8 0 ((k : Nat) : Int) (by repeat (first | assumption | refine rg_sA ?_ ?_ | refine in_ua ?_ (by omega) | exact fun _ => hσ _ _)) (by omega) (by omega)) ck_puts (by decide) rfl (Nat.le_of_ble_eq_true rfl) dX12_aLine_164 ?_
                    obtain ⟨τ9, eτ9⟩ : ∃ xq9, xq9 = (puS τ8 0 ((k : Nat) : Int)) := ⟨_, rfl⟩
                    refine mo_st eτ9.symm ?_
                    have pτ9 : pI τ9 := by rw [eτ9]; exact (ps_pu pτ8 _ (by omega)).1
                    have rτ9 : rg τ9 := pτ9.1
                    have lτ9 := pτ9.2.2.2
                    refine hv_aload_n C 0 2 dX12_aLine_167 rfl rfl ?_
                    refine hv_bipush C dX12_aLine_168 (by decide) ?_
                    refine hv_iload_n C 2 1 dX12_aLine_170 rfl rfl ?_
                    refine mo_call [.int (iz 17), .int (iz x17)] [] C K (k_puts l τ9 17 x17 (by repeat (first | assumption | refine rg_sA ?_ ?_ | refine in_ua ?_ (by omega) | exact fun _ => hσ _ _)) (by omega) (by omega)) ck_puts (by decide) rfl (Nat.le_of_ble_eq_true rfl) dX12_aLine_171 ?_
                    obtain ⟨τ10, eτ10⟩ : ∃ xq9, xq9 = (puS τ9 17 x17) := ⟨_, rfl⟩
                    refine mo_st eτ10.symm ?_
                    have pτ10 : pI τ10 := by rw [eτ10]; exact (ps_pu pτ9 _ (by omega)).1
                    have rτ10 : rg τ10 := pτ10.1
                    have lτ10 := pτ10.2.2.2
                    refine hv_aload_n C 0 2 dX12_aLine_174 rfl rfl ?_
                    refine hv_bipush C dX12_aLine_175 (by decide) ?_
                    refine hv_iload_n C 3 0 dX12_aLine_177 rfl rfl ?_
                    refine mo_call [.int (iz 18), .int (iz (τ6 0 6))] [] C K (k_puts l τ10 18 (τ6 0 6) (by repeat (first | assumption | refine rg_sA ?_ ?_ | refine in_ua ?_ (by omega) | exact fun _ => hσ _ _)) (by omega) (by omega)) ck_puts (by decide) rfl (Nat.le_of_ble_eq_true rfl) dX12_aLine_178 ?_
                    obtain ⟨τ11, eτ11⟩ : ∃ xq9, xq9 = (puS τ10 18 (τ6 0 6)) := ⟨_, rfl⟩
                    refine mo_st eτ11.symm ?_
                    have pτ11 : pI τ11 := by rw [eτ11]; exact (ps_pu pτ10 _ (by first | exact zi3 | omega)).1
                    have rτ11 : rg τ11 := pτ11.1
                    have lτ11 := pτ11.2.2.2
                    refine hv_aload_n C 0 2 dX12_aLine_181 rfl rfl ?_
                    refine hv_dup C dX12_aLine_182 rfl ?_
                    refine mo_geti C K (x := τ11 0 10) 10 (by decide) rfl mo_hw fl_169 rfl dX12_aLine_183 ?_
                    refine hv_iconst C dX12_aLine_186 ?_
                    refine hv_iadd C dX12_aLine_187 ?_
                    refine mo_puti C K (σ2 := u2 τ11 0 10 ((τ11 0 10) + 1)) 10 (by decide) rfl mo_hw fl_169 rfl rfl (ty := .int) (by decide +kernel) rfl rfl dX12_aLine_188 ?_
                    exact mo_vret (Qc := fun _ _ _ _ => True) C hr hlk (by first | (unfold lnS; rw [z5]; exact (if_neg (show ¬ (τ5 0 9 = 0 ∧ τ5 0 5 = 3 ∧ (20 ≤ τ5 0 8 ∧ τ5 0 8 ≤ 22)) by omega)).symm) | (rw [zS7]; unfold ln5; rw [eτ11, eτ10, eτ9, eτ8, eτ7]; rfl)) dX12_aLine_191
                · skip
                  refine hv_aload_n C 0 0 dX12_aLine_126 rfl rfl ?_
                  refine mo_call [] [] C K (k_stops l τ5  (by repeat (first | assumption | refine rg_sA ?_ ?_ | refine in_ua ?_ (by omega) | exact fun _ => hσ _ _))) ck_stops (by decide) rfl (Nat.le_of_ble_eq_true rfl) dX12_aLine_127 ?_
                  exact mo_vret (Qc := fun _ _ _ _ => True) C hr hlk (by first | (unfold lnS; rw [z5]; exact (if_neg (show ¬ (τ5 0 9 = 0 ∧ τ5 0 5 = 3 ∧ (20 ≤ τ5 0 8 ∧ τ5 0 8 ≤ 22)) by omega)).symm) | (rw [zS7]; unfold ln5; rw [eτ11, eτ10, eτ9, eτ8, eτ7]; rfl)) dX12_aLine_130
          · skip
            refine hv_iload_n C 1 1 dX12_aLine_30 rfl rfl ?_
            refine hv_iconst C dX12_aLine_31 ?_
            refine hv_icmp_le C 39 dX12_aLine_32 (by decide) (by omega) (by omega) (fun h32 => ?_) (fun h32 => ?_)
            · skip
              obtain ⟨τ1, eτ1⟩ : ∃ xq9, xq9 = s9 := ⟨_, rfl⟩
              refine mo_st eτ1.symm ?_
              have pτ1 : pI τ1 := by rw [eτ1]; exact (by first | exact hp9 | exact (ps_al hp9).1)
              have rτ1 : rg τ1 := pτ1.1
              have lτ1 := pτ1.2.2.2
              have z1 : (if 3 < k then alS s9 else s9) = τ1 := by rw [eτ1]; first | exact if_pos (by omega) | exact if_neg (by omega)
              refine hv_aload_n C 0 0 dX12_aLine_39 rfl rfl ?_
              refine mo_call [] [] C K (k_aTest l τ1  (by assumption)) ck_aTest (by decide) rfl (Nat.le_of_ble_eq_true rfl) dX12_aLine_40 ?_
              obtain ⟨τ2, eτ2⟩ : ∃ xq9, xq9 = (teS τ1) := ⟨_, rfl⟩
              refine mo_st eτ2.symm ?_
              have pτ2 : pI τ2 := by rw [eτ2]; exact (ps_te pτ1).1
              have rτ2 : rg τ2 := pτ2.1
              have lτ2 := pτ2.2.2.2
              refine hv_iconst C dX12_aLine_43 ?_
              refine hv_istore_n C 3 [(3, .int (iz 0)), (0, .ref a0), (1, .int (iz ((k : Nat) : Int))), (2, .int (iz (xb (more))))] dX12_aLine_44 rfl (by decide) rfl ?_
              have L45 : ∀ (f : Nat) (i : Nat) (s8 : Nat → Nat → Int), 4 - i < f → pI s8 → i ≤ 4 → (0 < i → k < 4) → s8 = pu4 τ2 k i → hvV p l e { frames := 6, cells := 0, slots := 0, locals := 130 } s m args below meth c 4 (moR a0) 0 0 (MQ below (moQ D cI cZ a0 none (lnS σ)) args s 0 0 (moR a0)) (moI D cI cZ a0 s.heap s8) 45 [(0, .ref a0), (1, .int (iz ((k : Nat) : Int))), (2, .int (iz (xb (more)))), (3, .int (iz ((i : Nat) : Int)))] [] := by
                intro f
                induction f with
                | zero => intro _ _ hm; exact absurd hm (Nat.not_lt_zero _)
                | succ f ih45 =>
                  intro i s8 hm45 hp8 hi4 hki hs8
                  have zr8 : rg s8 := hp8.1
                  have zl8 := hp8.2.2.2
                  refine hv_iload_n C 3 3 dX12_aLine_45 rfl rfl ?_
                  refine hv_iconst C dX12_aLine_46 ?_
                  refine hv_icmp_ge C 78 dX12_aLine_47 (by decide) (by omega) (by omega) (fun h47 => ?_) (fun h47 => ?_)
                  · skip
                    have z8 : it9 k s9 = s8 := by unfold it9; rw [z1, ← eτ2, hs8]; first | (rw [if_pos (by omega), show i = 4 by omega]; done) | (rw [if_neg (by omega), show i = 0 by omega]; rfl)
                    have zm := ps_it9 hp9 k
                    rw [z8] at zm
                    have zg := hg h27
                    have zr9 := hr9
                    rw [if_pos h27, alw_s (by omega) z8] at zr9
                    refine hv_iinc C 1 1 [(1, .int (iz (((k : Nat) : Int) + 1))), (0, .ref a0), (2, .int (iz (xb (more)))), (3, .int (iz ((i : Nat) : Int)))] dX12_aLine_78 rfl (by decide) rfl ?_
                    refine hv_aload_n C 0 1 dX12_aLine_81 rfl rfl ?_
                    refine hv_bipush C dX12_aLine_82 (by decide) ?_
                    refine mo_call [.int (iz 31)] [] C K (k_takes l s8 31 (by assumption) (by omega)) ck_takes (by decide) rfl (Nat.le_of_ble_eq_true rfl) dX12_aLine_84 ?_
                    refine hv_istore_n C 2 [(2, .int (iz (xb (decide (s8 0 9 = 0 ∧ s8 0 5 = 3 ∧ s8 0 8 = 31))))), (1, .int (iz (((k : Nat) : Int) + 1))), (0, .ref a0), (3, .int (iz ((i : Nat) : Int)))] dX12_aLine_87 rfl (by decide) rfl ?_
                    refine hv_goto C 26 dX12_aLine_88 (by decide) ?_
                    refine hv_loc [2, 1, 0] [(0, .ref a0), (1, .int (iz (((k : Nat) : Int) + 1))), (2, .int (iz (xb (decide (s8 0 9 = 0 ∧ s8 0 5 = 3 ∧ s8 0 8 = 31)))))] rfl ?_
                    exact ih26 (decide (s8 0 9 = 0 ∧ s8 0 5 = 3 ∧ s8 0 8 = 31)) (k + 1) (tkS s8 31) (g - 1) (by have zg1 := hg h27; omega) (ps_tk hp8 31).1 ⟨fun zt => by have zc9 : (s8 0 9 = 0 ∧ s8 0 5 = 3 ∧ s8 0 8 = 31) := of_decide_eq_true zt; have z2 := mu_ad hp8 (by omega); rw [show tkS s8 31 = adS s8 from if_pos zc9]; have z4 := zm.2.2; have z5 := hk9.1 h27; omega, by have z5 := hk9.1 h27; omega⟩ (fun zt => by have zc9 : (s8 0 9 = 0 ∧ s8 0 5 = 3 ∧ s8 0 8 = 31) := of_decide_eq_true zt; have z2 := mu_ad hp8 (by omega); rw [show tkS s8 31 = adS s8 from if_pos zc9]; have z4 := zm.2.2; omega) (by rw [← zr9]; by_cases zc9 : (s8 0 9 = 0 ∧ s8 0 5 = 3 ∧ s8 0 8 = 31); (rw [if_pos (decide_eq_true zc9), if_pos zc9, show tkS s8 31 = adS s8 from if_pos zc9]); (rw [if_neg (by rw [decide_eq_false zc9]; decide), if_neg zc9, show tkS s8 31 = s8 from if_neg zc9]))
                  · skip
                    refine hv_iload_n C 1 1 dX12_aLine_50 rfl rfl ?_
                    refine hv_iconst C dX12_aLine_51 ?_
                    refine hv_icmp_ge C 78 dX12_aLine_52 (by decide) (by omega) (by omega) (fun h52 => ?_) (fun h52 => ?_)
                    · skip
                      have z8 : it9 k s9 = s8 := by unfold it9; rw [z1, ← eτ2, hs8]; first | (rw [if_pos (by omega), show i = 4 by omega]; done) | (rw [if_neg (by omega), show i = 0 by omega]; rfl)
                      have zm := ps_it9 hp9 k
                      rw [z8] at zm
                      have zg := hg h27
                      have zr9 := hr9
                      rw [if_pos h27, alw_s (by omega) z8] at zr9
                      refine hv_iinc C 1 1 [(1, .int (iz (((k : Nat) : Int) + 1))), (0, .ref a0), (2, .int (iz (xb (more)))), (3, .int (iz ((i : Nat) : Int)))] dX12_aLine_78 rfl (by decide) rfl ?_
                      refine hv_aload_n C 0 1 dX12_aLine_81 rfl rfl ?_
                      refine hv_bipush C dX12_aLine_82 (by decide) ?_
                      refine mo_call [.int (iz 31)] [] C K (k_takes l s8 31 (by assumption) (by omega)) ck_takes (by decide) rfl (Nat.le_of_ble_eq_true rfl) dX12_aLine_84 ?_
                      refine hv_istore_n C 2 [(2, .int (iz (xb (decide (s8 0 9 = 0 ∧ s8 0 5 = 3 ∧ s8 0 8 = 31))))), (1, .int (iz (((k : Nat) : Int) + 1))), (0, .ref a0), (3, .int (iz ((i : Nat) : Int)))] dX12_aLine_87 rfl (by decide) rfl ?_
                      refine hv_goto C 26 dX12_aLine_88 (by decide) ?_
                      refine hv_loc [2, 1, 0] [(0, .ref a0), (1, .int (iz (((k : Nat) : Int) + 1))), (2, .int (iz (xb (decide (s8 0 9 = 0 ∧ s8 0 5 = 3 ∧ s8 0 8 = 31)))))] rfl ?_
                      exact ih26 (decide (s8 0 9 = 0 ∧ s8 0 5 = 3 ∧ s8 0 8 = 31)) (k + 1) (tkS s8 31) (g - 1) (by have zg1 := hg h27; omega) (ps_tk hp8 31).1 ⟨fun zt => by have zc9 : (s8 0 9 = 0 ∧ s8 0 5 = 3 ∧ s8 0 8 = 31) := of_decide_eq_true zt; have z2 := mu_ad hp8 (by omega); rw [show tkS s8 31 = adS s8 from if_pos zc9]; have z4 := zm.2.2; have z5 := hk9.1 h27; omega, by have z5 := hk9.1 h27; omega⟩ (fun zt => by have zc9 : (s8 0 9 = 0 ∧ s8 0 5 = 3 ∧ s8 0 8 = 31) := of_decide_eq_true zt; have z2 := mu_ad hp8 (by omega); rw [show tkS s8 31 = adS s8 from if_pos zc9]; have z4 := zm.2.2; omega) (by rw [← zr9]; by_cases zc9 : (s8 0 9 = 0 ∧ s8 0 5 = 3 ∧ s8 0 8 = 31); (rw [if_pos (decide_eq_true zc9), if_pos zc9, show tkS s8 31 = adS s8 from if_pos zc9]); (rw [if_neg (by rw [decide_eq_false zc9]; decide), if_neg zc9, show tkS s8 31 = s8 from if_neg zc9]))
                    · skip
                      refine hv_aload_n C 0 0 dX12_aLine_55 rfl rfl ?_
                      refine hv_iconst C dX12_aLine_56 ?_
                      refine hv_iconst C dX12_aLine_57 ?_
                      refine hv_iload_n C 1 1 dX12_aLine_58 rfl rfl ?_
                      refine hv_imul C dX12_aLine_59 ?_
                      refine hv_iadd C dX12_aLine_60 ?_
                      refine hv_iload_n C 3 3 dX12_aLine_61 rfl rfl ?_
                      refine hv_iadd C dX12_aLine_62 ?_
                      refine hv_aload_n C 0 0 dX12_aLine_63 rfl rfl ?_
                      refine mo_geta C K 12 4 (by decide) rfl mo_hw fl_20 rfl dX12_aLine_64 ?_
                      refine hv_iload_n C 3 3 dX12_aLine_67 rfl rfl ?_
                      refine mo_iald C K 4 4 i rfl (by omega) (by omega) (by decide) dX12_aLine_68 ?_
                      refine hv_as ((s8 4 i)) rfl ?_
                      refine mo_call [.int (iz ((1 + (4 * ((k : Nat) : Int))) + ((i : Nat) : Int))), .int (iz (s8 4 i))] [] C K (k_puts l s8 ((1 + (4 * k)) + i) (s8 4 i) (by repeat (first | assumption | refine rg_sA ?_ ?_ | refine in_ua ?_ (by omega) | exact fun _ => hσ _ _)) (by omega) (by omega)) ck_puts (by decide) rfl (Nat.le_of_ble_eq_true rfl) dX12_aLine_69 ?_
                      refine hv_iinc C 3 3 [(3, .int (iz (((i : Nat) : Int) + 1))), (0, .ref a0), (1, .int (iz ((k : Nat) : Int))), (2, .int (iz (xb (more))))] dX12_aLine_72 rfl (by decide) rfl ?_
                      refine hv_goto C 45 dX12_aLine_75 (by decide) ?_
                      refine hv_loc [1, 2, 3, 0] [(0, .ref a0), (1, .int (iz ((k : Nat) : Int))), (2, .int (iz (xb (more)))), (3, .int (iz (((i : Nat) : Int) + 1)))] rfl ?_
                      exact ih45 (i + 1) (puS s8 ((1 + (4 * k)) + i) (s8 4 i)) (by omega) (by have zq9 := (ps_pu hp8 (1 + 4 * k + i) (hp8.1 4 i)); exact zq9.1) (by omega) (by omega) (by rw [hs8]; rfl)
              refine hv_loc [1, 2, 3, 0] [(0, .ref a0), (1, .int (iz ((k : Nat) : Int))), (2, .int (iz (xb (more)))), (3, .int (iz 0))] rfl ?_
              exact L45 _ 0 τ2 (Nat.lt_succ_self _) pτ2 (by omega) (by omega) rfl
            · skip
              refine hv_aload_n C 0 0 dX12_aLine_35 rfl rfl ?_
              refine mo_call [] [] C K (k_also l s9  (by repeat (first | assumption | refine rg_sA ?_ ?_ | refine in_ua ?_ (by omega) | exact fun _ => hσ _ _))) ck_also (by decide) rfl (Nat.le_of_ble_eq_true rfl) dX12_aLine_36 ?_
              obtain ⟨τ1, eτ1⟩ : ∃ xq9, xq9 = (alS s9) := ⟨_, rfl⟩
              refine mo_st eτ1.symm ?_
              have pτ1 : pI τ1 := by rw [eτ1]; exact (by first | exact hp9 | exact (ps_al hp9).1)
              have rτ1 : rg τ1 := pτ1.1
              have lτ1 := pτ1.2.2.2
              have z1 : (if 3 < k then alS s9 else s9) = τ1 := by rw [eτ1]; first | exact if_pos (by omega) | exact if_neg (by omega)
              refine hv_aload_n C 0 0 dX12_aLine_39 rfl rfl ?_
              refine mo_call [] [] C K (k_aTest l τ1  (by assumption)) ck_aTest (by decide) rfl (Nat.le_of_ble_eq_true rfl) dX12_aLine_40 ?_
              obtain ⟨τ2, eτ2⟩ : ∃ xq9, xq9 = (teS τ1) := ⟨_, rfl⟩
              refine mo_st eτ2.symm ?_
              have pτ2 : pI τ2 := by rw [eτ2]; exact (ps_te pτ1).1
              have rτ2 : rg τ2 := pτ2.1
              have lτ2 := pτ2.2.2.2
              refine hv_iconst C dX12_aLine_43 ?_
              refine hv_istore_n C 3 [(3, .int (iz 0)), (0, .ref a0), (1, .int (iz ((k : Nat) : Int))), (2, .int (iz (xb (more))))] dX12_aLine_44 rfl (by decide) rfl ?_
              have L45 : ∀ (f : Nat) (i : Nat) (s8 : Nat → Nat → Int), 4 - i < f → pI s8 → i ≤ 4 → (0 < i → k < 4) → s8 = pu4 τ2 k i → hvV p l e { frames := 6, cells := 0, slots := 0, locals := 130 } s m args below meth c 4 (moR a0) 0 0 (MQ below (moQ D cI cZ a0 none (lnS σ)) args s 0 0 (moR a0)) (moI D cI cZ a0 s.heap s8) 45 [(0, .ref a0), (1, .int (iz ((k : Nat) : Int))), (2, .int (iz (xb (more)))), (3, .int (iz ((i : Nat) : Int)))] [] := by
                intro f
                induction f with
                | zero => intro _ _ hm; exact absurd hm (Nat.not_lt_zero _)
                | succ f ih45 =>
                  intro i s8 hm45 hp8 hi4 hki hs8
                  have zr8 : rg s8 := hp8.1
                  have zl8 := hp8.2.2.2
                  refine hv_iload_n C 3 3 dX12_aLine_45 rfl rfl ?_
                  refine hv_iconst C dX12_aLine_46 ?_
                  refine hv_icmp_ge C 78 dX12_aLine_47 (by decide) (by omega) (by omega) (fun h47 => ?_) (fun h47 => ?_)
                  · skip
                    have z8 : it9 k s9 = s8 := by unfold it9; rw [z1, ← eτ2, hs8]; first | (rw [if_pos (by omega), show i = 4 by omega]; done) | (rw [if_neg (by omega), show i = 0 by omega]; rfl)
                    have zm := ps_it9 hp9 k
                    rw [z8] at zm
                    have zg := hg h27
                    have zr9 := hr9
                    rw [if_pos h27, alw_s (by omega) z8] at zr9
                    refine hv_iinc C 1 1 [(1, .int (iz (((k : Nat) : Int) + 1))), (0, .ref a0), (2, .int (iz (xb (more)))), (3, .int (iz ((i : Nat) : Int)))] dX12_aLine_78 rfl (by decide) rfl ?_
                    refine hv_aload_n C 0 1 dX12_aLine_81 rfl rfl ?_
                    refine hv_bipush C dX12_aLine_82 (by decide) ?_
                    refine mo_call [.int (iz 31)] [] C K (k_takes l s8 31 (by assumption) (by omega)) ck_takes (by decide) rfl (Nat.le_of_ble_eq_true rfl) dX12_aLine_84 ?_
                    refine hv_istore_n C 2 [(2, .int (iz (xb (decide (s8 0 9 = 0 ∧ s8 0 5 = 3 ∧ s8 0 8 = 31))))), (1, .int (iz (((k : Nat) : Int) + 1))), (0, .ref a0), (3, .int (iz ((i : Nat) : Int)))] dX12_aLine_87 rfl (by decide) rfl ?_
                    refine hv_goto C 26 dX12_aLine_88 (by decide) ?_
                    refine hv_loc [2, 1, 0] [(0, .ref a0), (1, .int (iz (((k : Nat) : Int) + 1))), (2, .int (iz (xb (decide (s8 0 9 = 0 ∧ s8 0 5 = 3 ∧ s8 0 8 = 31)))))] rfl ?_
                    exact ih26 (decide (s8 0 9 = 0 ∧ s8 0 5 = 3 ∧ s8 0 8 = 31)) (k + 1) (tkS s8 31) (g - 1) (by have zg1 := hg h27; omega) (ps_tk hp8 31).1 ⟨fun zt => by have zc9 : (s8 0 9 = 0 ∧ s8 0 5 = 3 ∧ s8 0 8 = 31) := of_decide_eq_true zt; have z2 := mu_ad hp8 (by omega); rw [show tkS s8 31 = adS s8 from if_pos zc9]; have z4 := zm.2.2; have z5 := hk9.1 h27; omega, by have z5 := hk9.1 h27; omega⟩ (fun zt => by have zc9 : (s8 0 9 = 0 ∧ s8 0 5 = 3 ∧ s8 0 8 = 31) := of_decide_eq_true zt; have z2 := mu_ad hp8 (by omega); rw [show tkS s8 31 = adS s8 from if_pos zc9]; have z4 := zm.2.2; omega) (by rw [← zr9]; by_cases zc9 : (s8 0 9 = 0 ∧ s8 0 5 = 3 ∧ s8 0 8 = 31); (rw [if_pos (decide_eq_true zc9), if_pos zc9, show tkS s8 31 = adS s8 from if_pos zc9]); (rw [if_neg (by rw [decide_eq_false zc9]; decide), if_neg zc9, show tkS s8 31 = s8 from if_neg zc9]))
                  · skip
                    refine hv_iload_n C 1 1 dX12_aLine_50 rfl rfl ?_
                    refine hv_iconst C dX12_aLine_51 ?_
                    refine hv_icmp_ge C 78 dX12_aLine_52 (by decide) (by omega) (by omega) (fun h52 => ?_) (fun h52 => ?_)
                    · skip
                      have z8 : it9 k s9 = s8 := by unfold it9; rw [z1, ← eτ2, hs8]; first | (rw [if_pos (by omega), show i = 4 by omega]; done) | (rw [if_neg (by omega), show i = 0 by omega]; rfl)
                      have zm := ps_it9 hp9 k
                      rw [z8] at zm
                      have zg := hg h27
                      have zr9 := hr9
                      rw [if_pos h27, alw_s (by omega) z8] at zr9
                      refine hv_iinc C 1 1 [(1, .int (iz (((k : Nat) : Int) + 1))), (0, .ref a0), (2, .int (iz (xb (more)))), (3, .int (iz ((i : Nat) : Int)))] dX12_aLine_78 rfl (by decide) rfl ?_
                      refine hv_aload_n C 0 1 dX12_aLine_81 rfl rfl ?_
                      refine hv_bipush C dX12_aLine_82 (by decide) ?_
                      refine mo_call [.int (iz 31)] [] C K (k_takes l s8 31 (by assumption) (by omega)) ck_takes (by decide) rfl (Nat.le_of_ble_eq_true rfl) dX12_aLine_84 ?_
                      refine hv_istore_n C 2 [(2, .int (iz (xb (decide (s8 0 9 = 0 ∧ s8 0 5 = 3 ∧ s8 0 8 = 31))))), (1, .int (iz (((k : Nat) : Int) + 1))), (0, .ref a0), (3, .int (iz ((i : Nat) : Int)))] dX12_aLine_87 rfl (by decide) rfl ?_
                      refine hv_goto C 26 dX12_aLine_88 (by decide) ?_
                      refine hv_loc [2, 1, 0] [(0, .ref a0), (1, .int (iz (((k : Nat) : Int) + 1))), (2, .int (iz (xb (decide (s8 0 9 = 0 ∧ s8 0 5 = 3 ∧ s8 0 8 = 31)))))] rfl ?_
                      exact ih26 (decide (s8 0 9 = 0 ∧ s8 0 5 = 3 ∧ s8 0 8 = 31)) (k + 1) (tkS s8 31) (g - 1) (by have zg1 := hg h27; omega) (ps_tk hp8 31).1 ⟨fun zt => by have zc9 : (s8 0 9 = 0 ∧ s8 0 5 = 3 ∧ s8 0 8 = 31) := of_decide_eq_true zt; have z2 := mu_ad hp8 (by omega); rw [show tkS s8 31 = adS s8 from if_pos zc9]; have z4 := zm.2.2; have z5 := hk9.1 h27; omega, by have z5 := hk9.1 h27; omega⟩ (fun zt => by have zc9 : (s8 0 9 = 0 ∧ s8 0 5 = 3 ∧ s8 0 8 = 31) := of_decide_eq_true zt; have z2 := mu_ad hp8 (by omega); rw [show tkS s8 31 = adS s8 from if_pos zc9]; have z4 := zm.2.2; omega) (by rw [← zr9]; by_cases zc9 : (s8 0 9 = 0 ∧ s8 0 5 = 3 ∧ s8 0 8 = 31); (rw [if_pos (decide_eq_true zc9), if_pos zc9, show tkS s8 31 = adS s8 from if_pos zc9]); (rw [if_neg (by rw [decide_eq_false zc9]; decide), if_neg zc9, show tkS s8 31 = s8 from if_neg zc9]))
                    · skip
                      refine hv_aload_n C 0 0 dX12_aLine_55 rfl rfl ?_
                      refine hv_iconst C dX12_aLine_56 ?_
                      refine hv_iconst C dX12_aLine_57 ?_
                      refine hv_iload_n C 1 1 dX12_aLine_58 rfl rfl ?_
                      refine hv_imul C dX12_aLine_59 ?_
                      refine hv_iadd C dX12_aLine_60 ?_
                      refine hv_iload_n C 3 3 dX12_aLine_61 rfl rfl ?_
                      refine hv_iadd C dX12_aLine_62 ?_
                      refine hv_aload_n C 0 0 dX12_aLine_63 rfl rfl ?_
                      refine mo_geta C K 12 4 (by decide) rfl mo_hw fl_20 rfl dX12_aLine_64 ?_
                      refine hv_iload_n C 3 3 dX12_aLine_67 rfl rfl ?_
                      refine mo_iald C K 4 4 i rfl (by omega) (by omega) (by decide) dX12_aLine_68 ?_
                      refine hv_as ((s8 4 i)) rfl ?_
                      refine mo_call [.int (iz ((1 + (4 * ((k : Nat) : Int))) + ((i : Nat) : Int))), .int (iz (s8 4 i))] [] C K (k_puts l s8 ((1 + (4 * k)) + i) (s8 4 i) (by repeat (first | assumption | refine rg_sA ?_ ?_ | refine in_ua ?_ (by omega) | exact fun _ => hσ _ _)) (by omega) (by omega)) ck_puts (by decide) rfl (Nat.le_of_ble_eq_true rfl) dX12_aLine_69 ?_
                      refine hv_iinc C 3 3 [(3, .int (iz (((i : Nat) : Int) + 1))), (0, .ref a0), (1, .int (iz ((k : Nat) : Int))), (2, .int (iz (xb (more))))] dX12_aLine_72 rfl (by decide) rfl ?_
                      refine hv_goto C 45 dX12_aLine_75 (by decide) ?_
                      refine hv_loc [1, 2, 3, 0] [(0, .ref a0), (1, .int (iz ((k : Nat) : Int))), (2, .int (iz (xb (more)))), (3, .int (iz (((i : Nat) : Int) + 1)))] rfl ?_
                      exact ih45 (i + 1) (puS s8 ((1 + (4 * k)) + i) (s8 4 i)) (by omega) (by have zq9 := (ps_pu hp8 (1 + 4 * k + i) (hp8.1 4 i)); exact zq9.1) (by omega) (by omega) (by rw [hs8]; rfl)
              refine hv_loc [1, 2, 3, 0] [(0, .ref a0), (1, .int (iz ((k : Nat) : Int))), (2, .int (iz (xb (more)))), (3, .int (iz 0))] rfl ?_
              exact L45 _ 0 τ2 (Nat.lt_succ_self _) pτ2 (by omega) (by omega) rfl
      refine hv_loc [2, 1, 0] [(0, .ref a0), (1, .int (iz 0)), (2, .int (iz 1))] rfl ?_
      exact L26 _ true 0 (adS τ0) fu9 (Nat.lt_succ_self _) (pI_ad pτ0) ⟨fun _ => by have z := mu_le (pI_ad pτ0); omega, by omega⟩ (fun _ => by have z := mu_le (pI_ad pτ0); unfold fu9; omega) (if_pos rfl)
