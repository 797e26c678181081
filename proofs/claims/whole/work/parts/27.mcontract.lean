/-- what a line keeps -/
def kd9 (s t : Nat → Nat → Int) : Prop := t 0 2 = s 0 2 ∧ (∀ i, ¬ i = 11 → ¬ i = 12 → t 1 i = s 1 i) ∧ (∀ j, ¬ j = 0 → ¬ j = 1 → ¬ j = 3 → ¬ j = 4 → t j = s j) ∧ ∀ i, 10 < i → t 0 i = s 0 i
theorem kd_k {s t : Nat → Nat → Int} (h : ke9 s t) : kd9 s t := h.2
theorem kd_r (s : Nat → Nat → Int) : kd9 s s := kd_k (ke_r s)
theorem kd_t {s t u : Nat → Nat → Int} (h : kd9 s t) (g : kd9 t u) : kd9 s u := ⟨g.1.trans h.1, fun i a b => (g.2.1 i a b).trans (h.2.1 i a b), fun j a b c d => (g.2.2.1 j a b c d).trans (h.2.2.1 j a b c d), fun i a => (g.2.2.2 i a).trans (h.2.2.2 i a)⟩
theorem ps_ln0 {s : Nat → Nat → Int} (h : pI s) : ps9 s (ln0 s) := by
  unfold ln0
  split
  · exact ps_al h
  · exact ps_r h
theorem ps_ln1 {s : Nat → Nat → Int} (h : pI s) : ps9 s (ln1 s).2 := by
  unfold ln1
  split
  · next c =>
    have a := ps_ad h (by omega)
    have b := ps_alw fu9 0 a.1
    exact ps_t (ps_t a b) (ps_mu b.1 58)
  · exact ps_r h
theorem st_9 (s : Nat → Nat → Int) : ¬ stS s 0 9 = 0 := by
  unfold stS
  split
  · assumption
  · show ¬ (1 : Int) = 0
    decide
theorem ps_pre5 {s : Nat → Nat → Int} (h : pI s) (k : Nat) {d n : Int} (hk : k ≤ 601) (hd : inI d) (hn : inI n) : ps9 s (puS (puS (puS (muS s 59) 0 (k : Int)) 17 d) 18 n) := by
  have a := ps_mu h 59
  have b := ps_pu a.1 0 (v := (k : Int)) ⟨by omega, by omega⟩
  have c := ps_pu b.1 17 hd
  exact ps_t (ps_t (ps_t a b) c) (ps_pu c.1 18 hn)
theorem ln6_p {s : Nat → Nat → Int} (h : pI s) (hl : s 0 10 ≤ 900) : pI (ln6 s) ∧ kd9 s (ln6 s) ∧ mu9 (ln6 s) = mu9 s ∧ ln6 s 0 10 = s 0 10 + 1 := by
  have l := h.2.2.2
  refine ⟨⟨rg_sA h.1 (in_ua (fun _ => h.1 _ _) ⟨by omega, by omega⟩), h.2.1, h.2.2.1, ?_⟩, ⟨rfl, fun _ _ _ => rfl, ?_, ?_⟩, rfl, rfl⟩
  · show 0 ≤ s 0 10 + 1 ∧ s 0 10 + 1 ≤ 1000
    omega
  · intro j a b c d; funext q; exact u2_o (by omega)
  · intro i a; exact u2_o (by omega)
theorem alw_k : ∀ (f k : Nat) {s : Nat → Nat → Int}, pI s → mu9 s < f → k + mu9 s ≤ 600 → (alw f k s).1 ≤ 601
  | 0, k, s, h, hf, hk => absurd hf (Nat.not_lt_zero _)
  | f + 1, k, s, h, hf, hk => by
    have a := ps_it9 h k
    have a2 := a.2.2
    unfold alw
    split
    · next c =>
      have b := mu_ad a.1 (by omega)
      exact alw_k f (k + 1) (pI_ad a.1) (by omega) (by omega)
    · show k + 1 ≤ 601
      omega
theorem ln1_k {s : Nat → Nat → Int} (h : pI s) : (ln1 s).1 ≤ 601 := by
  unfold ln1
  split
  · have a := mu_le (pI_ad h)
    exact alw_k fu9 0 (pI_ad h) (by unfold fu9; omega) (by omega)
  · show 0 ≤ 601
    omega
theorem ln_mu {s : Nat → Nat → Int} (h : pI s) (hl : s 0 10 ≤ 900) (h5 : ¬ s 0 5 = 0) : pI (lnS s) ∧ kd9 s (lnS s) ∧ (¬ lnS s 0 9 = 0 ∨ mu9 (lnS s) < mu9 s) ∧ lnS s 0 10 + mu9 (lnS s) ≤ s 0 10 + mu9 s := by
  have a := ps_ln0 h
  have b := ps_t a (ps_ln1 a.1)
  have bk := ln1_k a.1
  have e10 := b.2.1.1
  unfold lnS
  generalize hr : ln1 (ln0 s) = r at b bk e10
  unfold ln3
  split
  · next c =>
    have c1 := mu_ad b.1 (by omega)
    have c2 := ps_t b (ps_ad b.1 (by omega))
    have e11 := c2.2.1.1
    have main : ∀ (n : Int) (t : Nat → Nat → Int), inI n → ps9 (adS r.2) t → pI (ln5 r.1 (r.2 0 8) n t) ∧ kd9 s (ln5 r.1 (r.2 0 8) n t) ∧ (¬ ln5 r.1 (r.2 0 8) n t 0 9 = 0 ∨ mu9 (ln5 r.1 (r.2 0 8) n t) < mu9 s) ∧ ln5 r.1 (r.2 0 8) n t 0 10 + mu9 (ln5 r.1 (r.2 0 8) n t) ≤ s 0 10 + mu9 s := by
      intro n t hn ht
      have d := ps_t ht (ps_pre5 ht.1 r.1 bk (b.1.1 0 8) hn)
      have d10 := d.2.1.1
      have f := ln6_p d.1 (by omega)
      have d2 := d.2.2
      have c3 := b.2.2
      have f2 := f.2.2.1
      have f3 := f.2.2.2
      refine ⟨f.1, kd_t (kd_k c2.2.1) (kd_t (kd_k d.2.1) f.2.1), Or.inr ?_, ?_⟩
      · show mu9 (ln6 _) < _
        omega
      · show ln6 _ 0 10 + mu9 (ln6 _) ≤ _
        omega
    unfold ln4
    split
    · exact main _ _ (c2.1.1 0 6) (ps_nb c2.1)
    · exact main _ _ (by decide) (ps_r c2.1)
  · have d := ps_t b (ps_st b.1)
    refine ⟨d.1, kd_k d.2.1, Or.inl (st_9 _), ?_⟩
    have d2 := d.2.2
    have d10 := d.2.1.1
    omega
def ct0 (σ : Nat → Nat → Int) : Nat → Nat → Int := u2 (u2 (u2 (u2 (u2 (u2 (u2 σ 0 2 (σ 1 10)) 1 10 0) 0 3 0) 1 11 0) 1 12 (-1)) 0 9 0) 0 10 0
def ctw : Nat → (Nat → Nat → Int) → (Nat → Nat → Int)
  | 0, s => s
  | f + 1, s => if s 0 9 = 0 ∧ ¬ s 0 5 = 0 then ctw f (lnS s) else s
def ctf (σ : Nat → Nat → Int) : Nat → Nat → Int := ctw fu9 (adS (ct0 σ))
theorem ctw_x {s : Nat → Nat → Int} (h : ¬ (s 0 9 = 0 ∧ ¬ s 0 5 = 0)) : ∀ f, ctw f s = s
  | 0 => rfl
  | f + 1 => by unfold ctw; rw [if_neg h]
theorem ctw_s {g : Nat} {s : Nat → Nat → Int} (hg : 0 < g) (h : s 0 9 = 0 ∧ ¬ s 0 5 = 0) : ctw g s = ctw (g - 1) (lnS s) := by
  obtain ⟨g1, rfl⟩ : ∃ q, g = q + 1 := ⟨g - 1, by omega⟩
  show (if s 0 9 = 0 ∧ ¬ s 0 5 = 0 then ctw g1 (lnS s) else s) = _
  rw [if_pos h]; rfl
theorem ct0_p {σ : Nat → Nat → Int} (h : rg σ) (hc : 0 ≤ σ 1 10 ∧ σ 1 10 ≤ 500) : pI (ct0 σ) := by
  refine ⟨?_, hc, ⟨show (0 : Int) ≤ 0 by decide, hc.1⟩, show (0 : Int) ≤ 0 ∧ (0 : Int) ≤ 1000 by decide⟩
  unfold ct0
  exact rg_sA (rg_sA (rg_sA (rg_sA (rg_sA (rg_sA (rg_sA h (in_ua (fun _ => h _ _) (h 1 10))) (in_ua (fun _ => h _ _) (by decide))) (in_ua (in_ua (fun _ => h _ _) (h 1 10)) (by decide))) (in_ua (in_ua (fun _ => h _ _) (by decide)) (by decide))) (in_ua (in_ua (in_ua (fun _ => h _ _) (by decide)) (by decide)) (by decide))) (in_ua (in_ua (in_ua (fun _ => h _ _) (h 1 10)) (by decide)) (by decide))) (in_ua (in_ua (in_ua (in_ua (fun _ => h _ _) (h 1 10)) (by decide)) (by decide)) (by decide))
def cpA (A R : Nat → Int) (nw : Nat) : Nat → (Nat → Int)
  | 0 => A
  | k + 1 => ua (cpA A R nw k) (800 + 320 * nw + k) (R k)
theorem cpA_in {A R : Nat → Int} {nw : Nat} (hA : ∀ i, inI (A i)) (hR : ∀ i, inI (R i)) : ∀ k i, inI (cpA A R nw k i)
  | 0, i => hA i
  | k + 1, i => in_ua (cpA_in hA hR k) (hR k) i
/-- the state behind 'contract' -/
def ctS (σ : Nat → Nat → Int) (nw : Int) : Nat → Nat → Int := if ¬ (0 ≤ nw ∧ nw ≤ 2) then ct0 σ else if ¬ ctf σ 1 11 = 0 then ctf σ else sA (ctf σ) 1 (ua (cpA (ctf σ 1) (ctf σ 3) nw.toNat 320) (14 + nw.toNat) (ctf σ 0 10))
theorem ctS_0 {σ : Nat → Nat → Int} {nw : Int} (h : ¬ (0 ≤ nw ∧ nw ≤ 2)) : ctS σ nw = ct0 σ := if_pos h
theorem ctS_1 {σ s : Nat → Nat → Int} {nw : Nat} (h : nw ≤ 2) (e : ctf σ = s) (g : ¬ s 1 11 = 0) : ctS σ (nw : Int) = s := by
  unfold ctS; rw [if_neg (by omega), e, if_pos g]
theorem ctS_2 {σ s : Nat → Nat → Int} {nw : Nat} (h : nw ≤ 2) (e : ctf σ = s) (g : s 1 11 = 0) : ctS σ (nw : Int) = sA s 1 (ua (cpA (s 1) (s 3) nw 320) (14 + nw) (s 0 10)) := by
  unfold ctS; rw [if_neg (by omega), e, if_neg (by omega), Int.toNat_natCast]

theorem dX12_contract_0 : decode cX12_contract 0 = .ok (.aload_n 0, 1) := by decide +kernel
theorem dX12_contract_1 : decode cX12_contract 1 = .ok (.aload_n 0, 1) := by decide +kernel
theorem dX12_contract_2 : decode cX12_contract 2 = .ok (.getfield 7, 3) := by decide +kernel
theorem dX12_contract_5 : decode cX12_contract 5 = .ok (.bipush 10, 2) := by decide +kernel
theorem dX12_contract_7 : decode cX12_contract 7 = .ok (.iaload, 1) := by decide +kernel
theorem dX12_contract_8 : decode cX12_contract 8 = .ok (.putfield 91, 3) := by decide +kernel
theorem dX12_contract_11 : decode cX12_contract 11 = .ok (.aload_n 0, 1) := by decide +kernel
theorem dX12_contract_12 : decode cX12_contract 12 = .ok (.getfield 7, 3) := by decide +kernel
theorem dX12_contract_15 : decode cX12_contract 15 = .ok (.bipush 10, 2) := by decide +kernel
theorem dX12_contract_17 : decode cX12_contract 17 = .ok (.iconst 0, 1) := by decide +kernel
theorem dX12_contract_18 : decode cX12_contract 18 = .ok (.iastore, 1) := by decide +kernel
theorem dX12_contract_19 : decode cX12_contract 19 = .ok (.aload_n 0, 1) := by decide +kernel
theorem dX12_contract_20 : decode cX12_contract 20 = .ok (.iconst 0, 1) := by decide +kernel
theorem dX12_contract_21 : decode cX12_contract 21 = .ok (.putfield 117, 3) := by decide +kernel
theorem dX12_contract_24 : decode cX12_contract 24 = .ok (.aload_n 0, 1) := by decide +kernel
theorem dX12_contract_25 : decode cX12_contract 25 = .ok (.getfield 7, 3) := by decide +kernel
theorem dX12_contract_28 : decode cX12_contract 28 = .ok (.bipush 11, 2) := by decide +kernel
theorem dX12_contract_30 : decode cX12_contract 30 = .ok (.iconst 0, 1) := by decide +kernel
theorem dX12_contract_31 : decode cX12_contract 31 = .ok (.iastore, 1) := by decide +kernel
theorem dX12_contract_32 : decode cX12_contract 32 = .ok (.aload_n 0, 1) := by decide +kernel
theorem dX12_contract_33 : decode cX12_contract 33 = .ok (.getfield 7, 3) := by decide +kernel
theorem dX12_contract_36 : decode cX12_contract 36 = .ok (.bipush 12, 2) := by decide +kernel
theorem dX12_contract_38 : decode cX12_contract 38 = .ok (.iconst (-1), 1) := by decide +kernel
theorem dX12_contract_39 : decode cX12_contract 39 = .ok (.iastore, 1) := by decide +kernel
theorem dX12_contract_40 : decode cX12_contract 40 = .ok (.aload_n 0, 1) := by decide +kernel
theorem dX12_contract_41 : decode cX12_contract 41 = .ok (.iconst 0, 1) := by decide +kernel
theorem dX12_contract_42 : decode cX12_contract 42 = .ok (.putfield 152, 3) := by decide +kernel
theorem dX12_contract_45 : decode cX12_contract 45 = .ok (.aload_n 0, 1) := by decide +kernel
theorem dX12_contract_46 : decode cX12_contract 46 = .ok (.iconst 0, 1) := by decide +kernel
theorem dX12_contract_47 : decode cX12_contract 47 = .ok (.putfield 169, 3) := by decide +kernel
theorem dX12_contract_50 : decode cX12_contract 50 = .ok (.iload_n 1, 1) := by decide +kernel
theorem dX12_contract_51 : decode cX12_contract 51 = .ok (.iconst 0, 1) := by decide +kernel
theorem dX12_contract_52 : decode cX12_contract 52 = .ok (.iconst 2, 1) := by decide +kernel
theorem dX12_contract_53 : decode cX12_contract 53 = .ok (.invokestatic 59, 3) := by decide +kernel
theorem dX12_contract_56 : decode cX12_contract 56 = .ok (.ifCond .ne 6, 3) := by decide +kernel
theorem dX12_contract_59 : decode cX12_contract 59 = .ok (.bipush (-2), 2) := by decide +kernel
theorem dX12_contract_61 : decode cX12_contract 61 = .ok (.ireturn, 1) := by decide +kernel
theorem dX12_contract_62 : decode cX12_contract 62 = .ok (.aload_n 0, 1) := by decide +kernel
theorem dX12_contract_63 : decode cX12_contract 63 = .ok (.invokevirtual 156, 3) := by decide +kernel
theorem dX12_contract_66 : decode cX12_contract 66 = .ok (.aload_n 0, 1) := by decide +kernel
theorem dX12_contract_67 : decode cX12_contract 67 = .ok (.getfield 152, 3) := by decide +kernel
theorem dX12_contract_70 : decode cX12_contract 70 = .ok (.ifCond .ne 17, 3) := by decide +kernel
theorem dX12_contract_73 : decode cX12_contract 73 = .ok (.aload_n 0, 1) := by decide +kernel
theorem dX12_contract_74 : decode cX12_contract 74 = .ok (.getfield 127, 3) := by decide +kernel
theorem dX12_contract_77 : decode cX12_contract 77 = .ok (.ifCond .eq 10, 3) := by decide +kernel
theorem dX12_contract_80 : decode cX12_contract 80 = .ok (.aload_n 0, 1) := by decide +kernel
theorem dX12_contract_81 : decode cX12_contract 81 = .ok (.invokevirtual 186, 3) := by decide +kernel
theorem dX12_contract_84 : decode cX12_contract 84 = .ok (.goto (-18), 3) := by decide +kernel
theorem dX12_contract_87 : decode cX12_contract 87 = .ok (.aload_n 0, 1) := by decide +kernel
theorem dX12_contract_88 : decode cX12_contract 88 = .ok (.getfield 7, 3) := by decide +kernel
theorem dX12_contract_91 : decode cX12_contract 91 = .ok (.bipush 11, 2) := by decide +kernel
theorem dX12_contract_93 : decode cX12_contract 93 = .ok (.iaload, 1) := by decide +kernel
theorem dX12_contract_94 : decode cX12_contract 94 = .ok (.ifCond .eq 5, 3) := by decide +kernel
theorem dX12_contract_97 : decode cX12_contract 97 = .ok (.iconst (-1), 1) := by decide +kernel
theorem dX12_contract_98 : decode cX12_contract 98 = .ok (.ireturn, 1) := by decide +kernel
theorem dX12_contract_99 : decode cX12_contract 99 = .ok (.iconst 0, 1) := by decide +kernel
theorem dX12_contract_100 : decode cX12_contract 100 = .ok (.istore_n 2, 1) := by decide +kernel
theorem dX12_contract_101 : decode cX12_contract 101 = .ok (.iload_n 2, 1) := by decide +kernel
theorem dX12_contract_102 : decode cX12_contract 102 = .ok (.sipush 320, 3) := by decide +kernel
theorem dX12_contract_105 : decode cX12_contract 105 = .ok (.if_icmp .ge 31, 3) := by decide +kernel
theorem dX12_contract_108 : decode cX12_contract 108 = .ok (.aload_n 0, 1) := by decide +kernel
theorem dX12_contract_109 : decode cX12_contract 109 = .ok (.getfield 7, 3) := by decide +kernel
theorem dX12_contract_112 : decode cX12_contract 112 = .ok (.sipush 800, 3) := by decide +kernel
theorem dX12_contract_115 : decode cX12_contract 115 = .ok (.sipush 320, 3) := by decide +kernel
theorem dX12_contract_118 : decode cX12_contract 118 = .ok (.iload_n 1, 1) := by decide +kernel
theorem dX12_contract_119 : decode cX12_contract 119 = .ok (.imul, 1) := by decide +kernel
theorem dX12_contract_120 : decode cX12_contract 120 = .ok (.iadd, 1) := by decide +kernel
theorem dX12_contract_121 : decode cX12_contract 121 = .ok (.iload_n 2, 1) := by decide +kernel
theorem dX12_contract_122 : decode cX12_contract 122 = .ok (.iadd, 1) := by decide +kernel
theorem dX12_contract_123 : decode cX12_contract 123 = .ok (.aload_n 0, 1) := by decide +kernel
theorem dX12_contract_124 : decode cX12_contract 124 = .ok (.getfield 17, 3) := by decide +kernel
theorem dX12_contract_127 : decode cX12_contract 127 = .ok (.iload_n 2, 1) := by decide +kernel
theorem dX12_contract_128 : decode cX12_contract 128 = .ok (.iaload, 1) := by decide +kernel
theorem dX12_contract_129 : decode cX12_contract 129 = .ok (.iastore, 1) := by decide +kernel
theorem dX12_contract_130 : decode cX12_contract 130 = .ok (.iinc 2 1, 3) := by decide +kernel
theorem dX12_contract_133 : decode cX12_contract 133 = .ok (.goto (-32), 3) := by decide +kernel
theorem dX12_contract_136 : decode cX12_contract 136 = .ok (.aload_n 0, 1) := by decide +kernel
theorem dX12_contract_137 : decode cX12_contract 137 = .ok (.getfield 7, 3) := by decide +kernel
theorem dX12_contract_140 : decode cX12_contract 140 = .ok (.bipush 14, 2) := by decide +kernel
theorem dX12_contract_142 : decode cX12_contract 142 = .ok (.iload_n 1, 1) := by decide +kernel
theorem dX12_contract_143 : decode cX12_contract 143 = .ok (.iadd, 1) := by decide +kernel
theorem dX12_contract_144 : decode cX12_contract 144 = .ok (.aload_n 0, 1) := by decide +kernel
theorem dX12_contract_145 : decode cX12_contract 145 = .ok (.getfield 169, 3) := by decide +kernel
theorem dX12_contract_148 : decode cX12_contract 148 = .ok (.iastore, 1) := by decide +kernel
theorem dX12_contract_149 : decode cX12_contract 149 = .ok (.aload_n 0, 1) := by decide +kernel
theorem dX12_contract_150 : decode cX12_contract 150 = .ok (.getfield 169, 3) := by decide +kernel
theorem dX12_contract_153 : decode cX12_contract 153 = .ok (.ireturn, 1) := by decide +kernel
set_option maxRecDepth 100000 in
set_option maxHeartbeats 4000000 in
theorem k_contract (l : Launch) {D : va_G} {cI cZ : ClassId} {a0 : Nat} (σ : Nat → Nat → Int) (nw : Int) (hσ : rg σ) (hc : cn (σ 1)) (r_nw : inI nw) : moM l D cI cZ a0 yX12_contract cX12_contract 3 (some .int) 7 153 [.ref a0, .int (iz nw)] σ (some (.int (iz (if ¬ (0 ≤ nw ∧ nw ≤ 2) then -2 else if ¬ ctf σ 1 11 = 0 then -1 else ctf σ 0 10)))) (ctS σ nw) := by
  refine mo_start (by decide) rfl (Nat.le_of_ble_eq_true rfl) ?_
  intro p e s m args below meth c C K hr hlk
  refine hv_aload_n C 0 0 dX12_contract_0 rfl rfl ?_
  refine hv_aload_n C 0 0 dX12_contract_1 rfl rfl ?_
  refine mo_geta C K 0 1 (by decide) rfl mo_hw fl_7 rfl dX12_contract_2 ?_
  refine hv_bipush C dX12_contract_5 (by decide) ?_
  refine mo_iald C K 1 9040 10 rfl (by omega) (by omega) (by decide) dX12_contract_7 ?_
  refine mo_puti C K (σ2 := u2 σ 0 2 (σ 1 10)) 2 (by decide) rfl mo_hw fl_91 rfl rfl (ty := .int) (by decide +kernel) rfl rfl dX12_contract_8 ?_
  refine hv_aload_n C 0 0 dX12_contract_11 rfl rfl ?_
  refine mo_geta C K 0 1 (by decide) rfl mo_hw fl_7 rfl dX12_contract_12 ?_
  refine hv_bipush C dX12_contract_15 (by decide) ?_
  refine hv_iconst C dX12_contract_17 ?_
  refine mo_iast C K 1 9040 10 rfl (moW_set1 _ _ _ _ _ _) (by omega) (by omega) (by decide) dX12_contract_18 ?_
  refine hv_aload_n C 0 0 dX12_contract_19 rfl rfl ?_
  refine hv_iconst C dX12_contract_20 ?_
  refine mo_puti C K (σ2 := u2 (u2 (u2 σ 0 2 (σ 1 10)) 1 10 0) 0 3 0) 3 (by decide) rfl mo_hw fl_117 rfl rfl (ty := .int) (by decide +kernel) rfl rfl dX12_contract_21 ?_
  refine hv_aload_n C 0 0 dX12_contract_24 rfl rfl ?_
  refine mo_geta C K 0 1 (by decide) rfl mo_hw fl_7 rfl dX12_contract_25 ?_
  refine hv_bipush C dX12_contract_28 (by decide) ?_
  refine hv_iconst C dX12_contract_30 ?_
  refine mo_iast C K 1 9040 11 rfl (moW_set1 _ _ _ _ _ _) (by omega) (by omega) (by decide) dX12_contract_31 ?_
  refine hv_aload_n C 0 0 dX12_contract_32 rfl rfl ?_
  refine mo_geta C K 0 1 (by decide) rfl mo_hw fl_7 rfl dX12_contract_33 ?_
  refine hv_bipush C dX12_contract_36 (by decide) ?_
  refine hv_iconst C dX12_contract_38 ?_
  refine mo_iast C K 1 9040 12 rfl (moW_set1 _ _ _ _ _ _) (by omega) (by omega) (by decide) dX12_contract_39 ?_
  refine hv_aload_n C 0 0 dX12_contract_40 rfl rfl ?_
  refine hv_iconst C dX12_contract_41 ?_
  refine mo_puti C K (σ2 := u2 (u2 (u2 (u2 (u2 (u2 σ 0 2 (σ 1 10)) 1 10 0) 0 3 0) 1 11 0) 1 12 (-1)) 0 9 0) 9 (by decide) rfl mo_hw fl_152 rfl rfl (ty := .boolean) (by decide +kernel) rfl rfl dX12_contract_42 ?_
  refine hv_aload_n C 0 0 dX12_contract_45 rfl rfl ?_
  refine hv_iconst C dX12_contract_46 ?_
  refine mo_puti C K (σ2 := u2 (u2 (u2 (u2 (u2 (u2 (u2 σ 0 2 (σ 1 10)) 1 10 0) 0 3 0) 1 11 0) 1 12 (-1)) 0 9 0) 0 10 0) 10 (by decide) rfl mo_hw fl_169 rfl rfl (ty := .int) (by decide +kernel) rfl rfl dX12_contract_47 ?_
  refine hv_iload_n C 1 1 dX12_contract_50 rfl rfl ?_
  refine hv_iconst C dX12_contract_51 ?_
  refine hv_iconst C dX12_contract_52 ?_
  refine mo_callS [.int (iz nw), .int (iz 0), .int (iz 2)] [] C K (k_isIn l (u2 (u2 (u2 (u2 (u2 (u2 (u2 σ 0 2 (σ 1 10)) 1 10 0) 0 3 0) 1 11 0) 1 12 (-1)) 0 9 0) 0 10 0) nw 0 2 (by omega) (by omega) (by omega)) ck_isIn (by decide) rfl (Nat.le_of_ble_eq_true rfl) dX12_contract_53 ?_
  refine hv_dif_ne C 62 dX12_contract_56 (by decide)  (fun h56 => ?_) (fun h56 => ?_)
  · skip
    obtain ⟨nn, rfl⟩ : ∃ n : Nat, nw = (n : Int) := ⟨(nw).toNat, by omega⟩
    obtain ⟨τ0, eτ0⟩ : ∃ xq9, xq9 = ((u2 (u2 (u2 (u2 (u2 (u2 (u2 σ 0 2 (σ 1 10)) 1 10 0) 0 3 0) 1 11 0) 1 12 (-1)) 0 9 0) 0 10 0)) := ⟨_, rfl⟩
    refine mo_st eτ0.symm ?_
    have pτ0 : pI τ0 := by rw [eτ0]; exact ct0_p hσ ⟨by omega, by omega⟩
    have rτ0 : rg τ0 := pτ0.1
    have lτ0 := pτ0.2.2.2
    refine hv_aload_n C 0 0 dX12_contract_62 rfl rfl ?_
    refine mo_call [] [] C K (k_advance l τ0  (by assumption)) ck_advance (by decide) rfl (Nat.le_of_ble_eq_true rfl) dX12_contract_63 ?_
    have L66 : ∀ (f : Nat) (s9 : Nat → Nat → Int) (g : Nat), g < f → pI s9 → s9 0 10 + mu9 s9 ≤ 502 → (¬ s9 0 9 = 0 ∨ mu9 s9 < g) → ctw g s9 = ctw fu9 (adS τ0) → hvV p l e { frames := 7, cells := 0, slots := 0, locals := 153 } s m args below meth c 3 (moR a0) 0 0 (MQ below (moQ D cI cZ a0 (some (.int (iz (if ¬ (0 ≤ ((nn : Nat) : Int) ∧ ((nn : Nat) : Int) ≤ 2) then -2 else if ¬ ctf σ 1 11 = 0 then -1 else ctf σ 0 10)))) (ctS σ ((nn : Nat) : Int))) args s 0 0 (moR a0)) (moI D cI cZ a0 s.heap s9) 66 [(0, .ref a0), (1, .int (iz ((nn : Nat) : Int)))] [] := by
      intro f
      induction f with
      | zero => intro _ _ hm; exact absurd hm (Nat.not_lt_zero _)
      | succ f ih66 =>
        intro s9 g hm66 hp9 hl9 hg hr9
        have zq9s : rg s9 := hp9.1
        have zl9 := hp9.2.2.2
        refine hv_aload_n C 0 0 dX12_contract_66 rfl rfl ?_
        refine mo_geti C K (x := s9 0 9) 9 (by decide) rfl mo_hw fl_152 rfl dX12_contract_67 ?_
        refine hv_nm (fun x1 ex1 => ?_)
        have rx1 : inI x1 := by rw [ex1]; exact hp9.1 0 9
        refine hv_if_ne C 87 dX12_contract_70 (by decide) (by omega) (fun h70 => ?_) (fun h70 => ?_)
        · skip
          have zc : ctf σ = s9 := by unfold ctf; rw [show ct0 σ = τ0 from eτ0.symm, ← hr9]; exact ctw_x (by omega) _
          refine hv_aload_n C 0 0 dX12_contract_87 rfl rfl ?_
          refine mo_geta C K 0 1 (by decide) rfl mo_hw fl_7 rfl dX12_contract_88 ?_
          refine hv_bipush C dX12_contract_91 (by decide) ?_
          refine mo_iald C K 1 9040 11 rfl (by omega) (by omega) (by decide) dX12_contract_93 ?_
          refine hv_nm (fun x2 ex2 => ?_)
          have rx2 : inI x2 := by rw [ex2]; exact hp9.1 1 11
          refine hv_if_eq C 99 dX12_contract_94 (by decide) (by omega) (fun h94 => ?_) (fun h94 => ?_)
          · skip
            refine hv_iconst C dX12_contract_99 ?_
            refine hv_istore_n C 2 [(2, .int (iz 0)), (0, .ref a0), (1, .int (iz ((nn : Nat) : Int)))] dX12_contract_100 rfl (by decide) rfl ?_
            have L101 : ∀ (f : Nat) (i : Nat) (s8 : Nat → Nat → Int), 320 - i < f → i ≤ 320 → s8 = sA s9 1 (cpA (s9 1) (s9 3) nn i) → rg s8 → hvV p l e { frames := 7, cells := 0, slots := 0, locals := 153 } s m args below meth c 3 (moR a0) 0 0 (MQ below (moQ D cI cZ a0 (some (.int (iz (if ¬ (0 ≤ ((nn : Nat) : Int) ∧ ((nn : Nat) : Int) ≤ 2) then -2 else if ¬ ctf σ 1 11 = 0 then -1 else ctf σ 0 10)))) (ctS σ ((nn : Nat) : Int))) args s 0 0 (moR a0)) (moI D cI cZ a0 s.heap s8) 101 [(0, .ref a0), (1, .int (iz ((nn : Nat) : Int))), (2, .int (iz ((i : Nat) : Int)))] [] := by
              intro f
              induction f with
              | zero => intro _ _ hm; exact absurd hm (Nat.not_lt_zero _)
              | succ f ih101 =>
                intro i s8 hm101 hi9 hs8 hr8
                refine hv_iload_n C 2 2 dX12_contract_101 rfl rfl ?_
                refine hv_sipush C dX12_contract_102 (by decide) ?_
                refine hv_icmp_ge C 136 dX12_contract_105 (by decide) (by omega) (by omega) (fun h105 => ?_) (fun h105 => ?_)
                · skip
                  refine hv_aload_n C 0 0 dX12_contract_136 rfl rfl ?_
                  refine mo_geta C K 0 1 (by decide) rfl mo_hw fl_7 rfl dX12_contract_137 ?_
                  refine hv_bipush C dX12_contract_140 (by decide) ?_
                  refine hv_iload_n C 1 1 dX12_contract_142 rfl rfl ?_
                  refine hv_iadd C dX12_contract_143 ?_
                  refine hv_aload_n C 0 0 dX12_contract_144 rfl rfl ?_
                  refine mo_geti C K (x := s8 0 10) 10 (by decide) rfl mo_hw fl_169 rfl dX12_contract_145 ?_
                  refine hv_as ((s9 0 10)) (by rw [hs8]; rfl) ?_
                  refine mo_iast C K 1 9040 (14 + nn) rfl (moW_set1 _ _ _ _ _ _) (by omega) (by omega) (by decide) dX12_contract_148 ?_
                  refine hv_aload_n C 0 0 dX12_contract_149 rfl rfl ?_
                  refine mo_geti C K (x := (u2 s8 1 (14 + nn) (s9 0 10)) 0 10) 10 (by decide) rfl mo_hw fl_169 rfl dX12_contract_150 ?_
                  refine hv_as ((s9 0 10)) (by rw [hs8]; rfl) ?_
                  exact mo_iret (Qc := fun _ _ _ _ => True) C hr hlk (by first | exact (if_pos (by omega)).symm | (rw [if_neg (by omega), zc]; first | exact (if_pos (by omega)).symm | exact (if_neg (by omega)).symm)) (by first | exact (ctS_0 (by omega)).symm | exact (ctS_1 (by omega) zc (by omega)).symm | (rw [ctS_2 (by omega) zc (by omega), hs8, u2_sA, sA_sA, sA_at, show i = 320 by omega]; done)) dX12_contract_153
                · skip
                  refine hv_aload_n C 0 0 dX12_contract_108 rfl rfl ?_
                  refine mo_geta C K 0 1 (by decide) rfl mo_hw fl_7 rfl dX12_contract_109 ?_
                  refine hv_sipush C dX12_contract_112 (by decide) ?_
                  refine hv_sipush C dX12_contract_115 (by decide) ?_
                  refine hv_iload_n C 1 1 dX12_contract_118 rfl rfl ?_
                  refine hv_imul C dX12_contract_119 ?_
                  refine hv_iadd C dX12_contract_120 ?_
                  refine hv_iload_n C 2 2 dX12_contract_121 rfl rfl ?_
                  refine hv_iadd C dX12_contract_122 ?_
                  refine hv_aload_n C 0 0 dX12_contract_123 rfl rfl ?_
                  refine mo_geta C K 11 3 (by decide) rfl mo_hw fl_17 rfl dX12_contract_124 ?_
                  refine hv_iload_n C 2 2 dX12_contract_127 rfl rfl ?_
                  refine mo_iald C K 3 320 i rfl (by omega) (by omega) (by decide) dX12_contract_128 ?_
                  refine hv_as ((s9 3 i)) (by rw [hs8]; rfl) ?_
                  refine mo_iast C K 1 9040 ((800 + (320 * nn)) + i) rfl (moW_set1 _ _ _ _ _ _) (by omega) (by omega) (by decide) dX12_contract_129 ?_
                  refine hv_iinc C 2 2 [(2, .int (iz (((i : Nat) : Int) + 1))), (0, .ref a0), (1, .int (iz ((nn : Nat) : Int)))] dX12_contract_130 rfl (by decide) rfl ?_
                  refine hv_goto C 101 dX12_contract_133 (by decide) ?_
                  refine hv_loc [1, 2, 0] [(0, .ref a0), (1, .int (iz ((nn : Nat) : Int))), (2, .int (iz (((i : Nat) : Int) + 1)))] rfl ?_
                  exact ih101 (i + 1) (u2 s8 1 ((800 + (320 * nn)) + i) (s9 3 i)) (by omega) (by omega) (by rw [hs8, u2_sA, sA_sA, sA_at]; rfl) (by rw [hs8, u2_sA, sA_sA, sA_at]; exact rg_sA zq9s (in_ua (cpA_in (fun _ => zq9s _ _) (fun _ => zq9s _ _) _) (zq9s _ _)))
            refine hv_loc [1, 2, 0] [(0, .ref a0), (1, .int (iz ((nn : Nat) : Int))), (2, .int (iz 0))] rfl ?_
            exact L101 _ 0 s9 (Nat.lt_succ_self _) (by omega) (sA_id s9 1).symm zq9s
          · skip
            refine hv_iconst C dX12_contract_97 ?_
            exact mo_iret (Qc := fun _ _ _ _ => True) C hr hlk (by first | exact (if_pos (by omega)).symm | (rw [if_neg (by omega), zc]; first | exact (if_pos (by omega)).symm | exact (if_neg (by omega)).symm)) (by first | exact (ctS_0 (by omega)).symm | exact (ctS_1 (by omega) zc (by omega)).symm | (rw [ctS_2 (by omega) zc (by omega), hs8, u2_sA, sA_sA, sA_at, show i = 320 by omega]; done)) dX12_contract_98
        · skip
          refine hv_aload_n C 0 0 dX12_contract_73 rfl rfl ?_
          refine mo_geti C K (x := s9 0 5) 5 (by decide) rfl mo_hw fl_127 rfl dX12_contract_74 ?_
          refine hv_nm (fun x3 ex3 => ?_)
          have rx3 : inI x3 := by rw [ex3]; exact hp9.1 0 5
          refine hv_if_eq C 87 dX12_contract_77 (by decide) (by omega) (fun h77 => ?_) (fun h77 => ?_)
          · skip
            have zc : ctf σ = s9 := by unfold ctf; rw [show ct0 σ = τ0 from eτ0.symm, ← hr9]; exact ctw_x (by omega) _
            refine hv_aload_n C 0 0 dX12_contract_87 rfl rfl ?_
            refine mo_geta C K 0 1 (by decide) rfl mo_hw fl_7 rfl dX12_contract_88 ?_
            refine hv_bipush C dX12_contract_91 (by decide) ?_
            refine mo_iald C K 1 9040 11 rfl (by omega) (by omega) (by decide) dX12_contract_93 ?_
            refine hv_nm (fun x4 ex4 => ?_)
            have rx4 : inI x4 := by rw [ex4]; exact hp9.1 1 11
            refine hv_if_eq C 99 dX12_contract_94 (by decide) (by omega) (fun h94 => ?_) (fun h94 => ?_)
            · skip
              refine hv_iconst C dX12_contract_99 ?_
              refine hv_istore_n C 2 [(2, .int (iz 0)), (0, .ref a0), (1, .int (iz ((nn : Nat) : Int)))] dX12_contract_100 rfl (by decide) rfl ?_
              have L101 : ∀ (f : Nat) (i : Nat) (s8 : Nat → Nat → Int), 320 - i < f → i ≤ 320 → s8 = sA s9 1 (cpA (s9 1) (s9 3) nn i) → rg s8 → hvV p l e { frames := 7, cells := 0, slots := 0, locals := 153 } s m args below meth c 3 (moR a0) 0 0 (MQ below (moQ D cI cZ a0 (some (.int (iz (if ¬ (0 ≤ ((nn : Nat) : Int) ∧ ((nn : Nat) : Int) ≤ 2) then -2 else if ¬ ctf σ 1 11 = 0 then -1 else ctf σ 0 10)))) (ctS σ ((nn : Nat) : Int))) args s 0 0 (moR a0)) (moI D cI cZ a0 s.heap s8) 101 [(0, .ref a0), (1, .int (iz ((nn : Nat) : Int))), (2, .int (iz ((i : Nat) : Int)))] [] := by
                intro f
                induction f with
                | zero => intro _ _ hm; exact absurd hm (Nat.not_lt_zero _)
                | succ f ih101 =>
                  intro i s8 hm101 hi9 hs8 hr8
                  refine hv_iload_n C 2 2 dX12_contract_101 rfl rfl ?_
                  refine hv_sipush C dX12_contract_102 (by decide) ?_
                  refine hv_icmp_ge C 136 dX12_contract_105 (by decide) (by omega) (by omega) (fun h105 => ?_) (fun h105 => ?_)
                  · skip
                    refine hv_aload_n C 0 0 dX12_contract_136 rfl rfl ?_
                    refine mo_geta C K 0 1 (by decide) rfl mo_hw fl_7 rfl dX12_contract_137 ?_
                    refine hv_bipush C dX12_contract_140 (by decide) ?_
                    refine hv_iload_n C 1 1 dX12_contract_142 rfl rfl ?_
                    refine hv_iadd C dX12_contract_143 ?_
                    refine hv_aload_n C 0 0 dX12_contract_144 rfl rfl ?_
                    refine mo_geti C K (x := s8 0 10) 10 (by decide) rfl mo_hw fl_169 rfl dX12_contract_145 ?_
                    refine hv_as ((s9 0 10)) (by rw [hs8]; rfl) ?_
                    refine mo_iast C K 1 9040 (14 + nn) rfl (moW_set1 _ _ _ _ _ _) (by omega) (by omega) (by decide) dX12_contract_148 ?_
                    refine hv_aload_n C 0 0 dX12_contract_149 rfl rfl ?_
                    refine mo_geti C K (x := (u2 s8 1 (14 + nn) (s9 0 10)) 0 10) 10 (by decide) rfl mo_hw fl_169 rfl dX12_contract_150 ?_
                    refine hv_as ((s9 0 10)) (by rw [hs8]; rfl) ?_
                    exact mo_iret (Qc := fun _ _ _ _ => True) C hr hlk (by first | exact (if_pos (by omega)).symm | (rw [if_neg (by omega), zc]; first | exact (if_pos (by omega)).symm | exact (if_neg (by omega)).symm)) (by first | exact (ctS_0 (by omega)).symm | exact (ctS_1 (by omega) zc (by omega)).symm | (rw [ctS_2 (by omega) zc (by omega), hs8, u2_sA, sA_sA, sA_at, show i = 320 by omega]; done)) dX12_contract_153
                  · skip
                    refine hv_aload_n C 0 0 dX12_contract_108 rfl rfl ?_
                    refine mo_geta C K 0 1 (by decide) rfl mo_hw fl_7 rfl dX12_contract_109 ?_
                    refine hv_sipush C dX12_contract_112 (by decide) ?_
                    refine hv_sipush C dX12_contract_115 (by decide) ?_
                    refine hv_iload_n C 1 1 dX12_contract_118 rfl rfl ?_
                    refine hv_imul C dX12_contract_119 ?_
                    refine hv_iadd C dX12_contract_120 ?_
                    refine hv_iload_n C 2 2 dX12_contract_121 rfl rfl ?_
                    refine hv_iadd C dX12_contract_122 ?_
                    refine hv_aload_n C 0 0 dX12_contract_123 rfl rfl ?_
                    refine mo_geta C K 11 3 (by decide) rfl mo_hw fl_17 rfl dX12_contract_124 ?_
                    refine hv_iload_n C 2 2 dX12_contract_127 rfl rfl ?_
                    refine mo_iald C K 3 320 i rfl (by omega) (by omega) (by decide) dX12_contract_128 ?_
                    refine hv_as ((s9 3 i)) (by rw [hs8]; rfl) ?_
                    refine mo_iast C K 1 9040 ((800 + (320 * nn)) + i) rfl (moW_set1 _ _ _ _ _ _) (by omega) (by omega) (by decide) dX12_contract_129 ?_
                    refine hv_iinc C 2 2 [(2, .int (iz (((i : Nat) : Int) + 1))), (0, .ref a0), (1, .int (iz ((nn : Nat) : Int)))] dX12_contract_130 rfl (by decide) rfl ?_
                    refine hv_goto C 101 dX12_contract_133 (by decide) ?_
                    refine hv_loc [1, 2, 0] [(0, .ref a0), (1, .int (iz ((nn : Nat) : Int))), (2, .int (iz (((i : Nat) : Int) + 1)))] rfl ?_
                    exact ih101 (i + 1) (u2 s8 1 ((800 + (320 * nn)) + i) (s9 3 i)) (by omega) (by omega) (by rw [hs8, u2_sA, sA_sA, sA_at]; rfl) (by rw [hs8, u2_sA, sA_sA, sA_at]; exact rg_sA zq9s (in_ua (cpA_in (fun _ => zq9s _ _) (fun _ => zq9s _ _) _) (zq9s _ _)))
              refine hv_loc [1, 2, 0] [(0, .ref a0), (1, .int (iz ((nn : Nat) : Int))), (2, .int (iz 0))] rfl ?_
              exact L101 _ 0 s9 (Nat.lt_succ_self _) (by omega) (sA_id s9 1).symm zq9s
            · skip
              refine hv_iconst C dX12_contract_97 ?_
              exact mo_iret (Qc := fun _ _ _ _ => True) C hr hlk (by first | exact (if_pos (by omega)).symm | (rw [if_neg (by omega), zc]; first | exact (if_pos (by omega)).symm | exact (if_neg (by omega)).symm)) (by first | exact (ctS_0 (by omega)).symm | exact (ctS_1 (by omega) zc (by omega)).symm | (rw [ctS_2 (by omega) zc (by omega), hs8, u2_sA, sA_sA, sA_at, show i = 320 by omega]; done)) dX12_contract_98
          · skip
            refine hv_aload_n C 0 0 dX12_contract_80 rfl rfl ?_
            refine mo_call [] [] C K (k_aLine l s9  (by assumption) (by omega)) ck_aLine (by decide) rfl (Nat.le_of_ble_eq_true rfl) dX12_contract_81 ?_
            have zm := ln_mu hp9 (by omega) (by omega)
            refine hv_goto C 66 dX12_contract_84 (by decide) ?_
            exact ih66 (lnS s9) (g - 1) (by omega) zm.1 (by have z := zm.2.2.2; omega) (by rcases zm.2.2.1 with z | z; exact Or.inl z; (right; omega)) (by rw [← hr9]; exact (ctw_s (by omega) (by omega)).symm)
    exact L66 _ (adS τ0) fu9 (Nat.lt_succ_self _) (pI_ad pτ0) (by have z := mu_le (pI_ad pτ0); have z2 : adS τ0 0 10 = 0 := (by rw [eτ0]; exact adv_o (Or.inr (by decide))); omega) (Or.inr (by have z := mu_le (pI_ad pτ0); unfold fu9; omega)) rfl
  · skip
    refine hv_bipush C dX12_contract_59 (by decide) ?_
    exact mo_iret (Qc := fun _ _ _ _ => True) C hr hlk (by first | exact (if_pos (by omega)).symm | (rw [if_neg (by omega), zc]; first | exact (if_pos (by omega)).symm | exact (if_neg (by omega)).symm)) (by first | exact (ctS_0 (by omega)).symm | exact (ctS_1 (by omega) zc (by omega)).symm | (rw [ctS_2 (by omega) zc (by omega), hs8, u2_sA, sA_sA, sA_at, show i = 320 by omega]; done)) dX12_contract_61
