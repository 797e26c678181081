theorem pyq_nt {P : Prop} [Decidable P] {pay b : Bool} (h : P) (e : ¬ 1 = xb pay) : ¬ ((decide P == pay) && b) = true := by
  rw [decide_eq_true h]; cases pay
  · simp
  · exact absurd rfl e
theorem pyq_nf {P : Prop} [Decidable P] {pay b : Bool} (h : ¬ P) (e : ¬ 0 = xb pay) : ¬ ((decide P == pay) && b) = true := by
  rw [decide_eq_false h]; cases pay
  · exact absurd rfl e
  · simp
theorem pyq_nb {P : Prop} [Decidable P] {pay b : Bool} (h : b = false) : ¬ ((decide P == pay) && b) = true := by rw [h]; simp
theorem pyq_pt {P : Prop} [Decidable P] {pay b : Bool} (h : P) (e : 1 = xb pay) (hb : b = true) : ((decide P == pay) && b) = true := by
  rw [decide_eq_true h, hb]; cases pay
  · exact absurd e (by decide)
  · rfl
theorem pyq_pf {P : Prop} [Decidable P] {pay b : Bool} (h : ¬ P) (e : 0 = xb pay) (hb : b = true) : ((decide P == pay) && b) = true := by
  rw [decide_eq_false h, hb]; cases pay
  · rfl
  · exact absurd e (by decide)
theorem bk_rng (A : Nat → Int) (s d t : Int) : ∀ i : Nat, -1 ≤ bk A s d t i ∧ bk A s d t i < i
  | 0 => by simp [bk]
  | i + 1 => by
    have := bk_rng A s d t i
    unfold bk
    split <;> omega
theorem sh_rng (A : Nat → Int) (s : Nat) (d t w : Int) : ∀ (f h : Nat) (kept : Int), -1 ≤ kept → kept < 24 → h + f ≤ 24 → 0 ≤ sh A s d t w f h kept ∧ sh A s d t w f h kept ≤ 300
  | 0, h, kept, a, b, c => by
    unfold sh own
    repeat' split
    all_goals omega
  | f + 1, h, kept, a, b, c => by
    have r1 := sh_rng A s d t w f (h + 1) kept a b (by omega)
    have r2 := sh_rng A s d t w f (h + 1) h (by omega) (by omega) (by omega)
    unfold sh
    repeat' split
    all_goals omega
theorem sd_rng {A : Nat → Int} (hc : cn A) (s : Nat) (d t : Int) : 0 ≤ sd A s d t ∧ sd A s d t ≤ 300 := by
  have r1 := bk_rng A s d t (A 5).toNat
  have r2 := sh_rng A s d t (member A s d) (A 4).toNat 0 (-1) (by omega) (by omega) (by omega)
  unfold sd
  split <;> omega

theorem dX12_lineOf_0 : decode cX12_lineOf 0 = .ok (.aload_n 0, 1) := by decide +kernel
theorem dX12_lineOf_1 : decode cX12_lineOf 1 = .ok (.iload_n 2, 1) := by decide +kernel
theorem dX12_lineOf_2 : decode cX12_lineOf 2 = .ok (.iconst 0, 1) := by decide +kernel
theorem dX12_lineOf_3 : decode cX12_lineOf 3 = .ok (.invokevirtual 67, 3) := by decide +kernel
theorem dX12_lineOf_6 : decode cX12_lineOf 6 = .ok (.istore 5, 2) := by decide +kernel
theorem dX12_lineOf_8 : decode cX12_lineOf 8 = .ok (.iconst 0, 1) := by decide +kernel
theorem dX12_lineOf_9 : decode cX12_lineOf 9 = .ok (.istore 6, 2) := by decide +kernel
theorem dX12_lineOf_11 : decode cX12_lineOf 11 = .ok (.iload 6, 2) := by decide +kernel
theorem dX12_lineOf_13 : decode cX12_lineOf 13 = .ok (.aload_n 0, 1) := by decide +kernel
theorem dX12_lineOf_14 : decode cX12_lineOf 14 = .ok (.getfield 7, 3) := by decide +kernel
theorem dX12_lineOf_17 : decode cX12_lineOf 17 = .ok (.bipush 14, 2) := by decide +kernel
theorem dX12_lineOf_19 : decode cX12_lineOf 19 = .ok (.iload 5, 2) := by decide +kernel
theorem dX12_lineOf_21 : decode cX12_lineOf 21 = .ok (.iadd, 1) := by decide +kernel
theorem dX12_lineOf_22 : decode cX12_lineOf 22 = .ok (.iaload, 1) := by decide +kernel
theorem dX12_lineOf_23 : decode cX12_lineOf 23 = .ok (.if_icmp .ge 67, 3) := by decide +kernel
theorem dX12_lineOf_26 : decode cX12_lineOf 26 = .ok (.sipush 800, 3) := by decide +kernel
theorem dX12_lineOf_29 : decode cX12_lineOf 29 = .ok (.sipush 320, 3) := by decide +kernel
theorem dX12_lineOf_32 : decode cX12_lineOf 32 = .ok (.iload 5, 2) := by decide +kernel
theorem dX12_lineOf_34 : decode cX12_lineOf 34 = .ok (.imul, 1) := by decide +kernel
theorem dX12_lineOf_35 : decode cX12_lineOf 35 = .ok (.iadd, 1) := by decide +kernel
theorem dX12_lineOf_36 : decode cX12_lineOf 36 = .ok (.bipush 20, 2) := by decide +kernel
theorem dX12_lineOf_38 : decode cX12_lineOf 38 = .ok (.iload 6, 2) := by decide +kernel
theorem dX12_lineOf_40 : decode cX12_lineOf 40 = .ok (.imul, 1) := by decide +kernel
theorem dX12_lineOf_41 : decode cX12_lineOf 41 = .ok (.iadd, 1) := by decide +kernel
theorem dX12_lineOf_42 : decode cX12_lineOf 42 = .ok (.istore 7, 2) := by decide +kernel
theorem dX12_lineOf_44 : decode cX12_lineOf 44 = .ok (.aload_n 0, 1) := by decide +kernel
theorem dX12_lineOf_45 : decode cX12_lineOf 45 = .ok (.getfield 7, 3) := by decide +kernel
theorem dX12_lineOf_48 : decode cX12_lineOf 48 = .ok (.iload 7, 2) := by decide +kernel
theorem dX12_lineOf_50 : decode cX12_lineOf 50 = .ok (.bipush 17, 2) := by decide +kernel
theorem dX12_lineOf_52 : decode cX12_lineOf 52 = .ok (.iadd, 1) := by decide +kernel
theorem dX12_lineOf_53 : decode cX12_lineOf 53 = .ok (.iaload, 1) := by decide +kernel
theorem dX12_lineOf_54 : decode cX12_lineOf 54 = .ok (.bipush 22, 2) := by decide +kernel
theorem dX12_lineOf_56 : decode cX12_lineOf 56 = .ok (.if_icmp .ne 7, 3) := by decide +kernel
theorem dX12_lineOf_59 : decode cX12_lineOf 59 = .ok (.iconst 1, 1) := by decide +kernel
theorem dX12_lineOf_60 : decode cX12_lineOf 60 = .ok (.goto 4, 3) := by decide +kernel
theorem dX12_lineOf_63 : decode cX12_lineOf 63 = .ok (.iconst 0, 1) := by decide +kernel
theorem dX12_lineOf_64 : decode cX12_lineOf 64 = .ok (.iload 4, 2) := by decide +kernel
theorem dX12_lineOf_66 : decode cX12_lineOf 66 = .ok (.if_icmp .ne 18, 3) := by decide +kernel
theorem dX12_lineOf_69 : decode cX12_lineOf 69 = .ok (.aload_n 0, 1) := by decide +kernel
theorem dX12_lineOf_70 : decode cX12_lineOf 70 = .ok (.iload 7, 2) := by decide +kernel
theorem dX12_lineOf_72 : decode cX12_lineOf 72 = .ok (.iload_n 1, 1) := by decide +kernel
theorem dX12_lineOf_73 : decode cX12_lineOf 73 = .ok (.iload_n 2, 1) := by decide +kernel
theorem dX12_lineOf_74 : decode cX12_lineOf 74 = .ok (.iload_n 3, 1) := by decide +kernel
theorem dX12_lineOf_75 : decode cX12_lineOf 75 = .ok (.invokevirtual 202, 3) := by decide +kernel
theorem dX12_lineOf_78 : decode cX12_lineOf 78 = .ok (.ifCond .eq 6, 3) := by decide +kernel
theorem dX12_lineOf_81 : decode cX12_lineOf 81 = .ok (.iload 6, 2) := by decide +kernel
theorem dX12_lineOf_83 : decode cX12_lineOf 83 = .ok (.ireturn, 1) := by decide +kernel
theorem dX12_lineOf_84 : decode cX12_lineOf 84 = .ok (.iinc 6 1, 3) := by decide +kernel
theorem dX12_lineOf_87 : decode cX12_lineOf 87 = .ok (.goto (-76), 3) := by decide +kernel
theorem dX12_lineOf_90 : decode cX12_lineOf 90 = .ok (.iconst (-1), 1) := by decide +kernel
theorem dX12_lineOf_91 : decode cX12_lineOf 91 = .ok (.ireturn, 1) := by decide +kernel
set_option maxRecDepth 100000 in
set_option maxHeartbeats 4000000 in
theorem k_lineOf (l : Launch) {D : va_G} {cI cZ : ClassId} {a0 : Nat} (σ : Nat → Nat → Int) (s9 : Nat) (h : Nat) (i : Int) (pay : Bool) (hσ : rg σ) (hc : cn (σ 1)) (hs : si (σ 1)) (hh : hi (σ 1)) (hl : li (σ 1)) (h1 : (s9 : Int) < σ 1 2) (h2 : (h : Int) < σ 1 4) (h3 : 0 ≤ i ∧ i ≤ 3) : moM l D cI cZ a0 yX12_lineOf cX12_lineOf 8 (some .int) 5 124 [.ref a0, .int (iz ((s9 : Nat) : Int)), .int (iz ((h : Nat) : Int)), .int (iz i), .int (iz (xb pay))] σ (some (.int (iz (line (σ 1) s9 h i pay)))) (σ) := by
  refine mo_start (by decide) rfl (Nat.le_of_ble_eq_true rfl) ?_
  intro p e s m args below meth c C K hr hlk
  have a2 := hh h h2
  refine hv_aload_n C 0 0 dX12_lineOf_0 rfl rfl ?_
  refine hv_iload_n C 2 2 dX12_lineOf_1 rfl rfl ?_
  refine hv_iconst C dX12_lineOf_2 ?_
  refine mo_call [.int (iz ((h : Nat) : Int)), .int (iz 0)] [] C K (k_hourOf l σ h 0 (by omega) (by omega)) ck_hourOf (by decide) rfl (Nat.le_of_ble_eq_true rfl) dX12_lineOf_3 ?_
  refine hv_nm (fun x1 ex1 => ?_)
  have rx1 : inI x1 := by rw [ex1]; exact hσ _ _
  obtain ⟨nw, rfl⟩ : ∃ n : Nat, x1 = (n : Int) := ⟨(x1).toNat, by omega⟩
  have hw : (σ 1 (280 + 8 * h)).toNat = nw := by show (σ 1 (280 + 8 * h + 0)).toNat = nw; omega
  have a3 := (hl nw (by omega)).1
  refine hv_istore C 5 [(5, .int (iz ((nw : Nat) : Int))), (0, .ref a0), (1, .int (iz ((s9 : Nat) : Int))), (2, .int (iz ((h : Nat) : Int))), (3, .int (iz i)), (4, .int (iz (xb (pay))))] dX12_lineOf_6 (by decide) rfl ?_
  refine hv_iconst C dX12_lineOf_8 ?_
  refine hv_istore C 6 [(6, .int (iz 0)), (5, .int (iz ((nw : Nat) : Int))), (0, .ref a0), (1, .int (iz ((s9 : Nat) : Int))), (2, .int (iz ((h : Nat) : Int))), (3, .int (iz i)), (4, .int (iz (xb (pay))))] dX12_lineOf_9 (by decide) rfl ?_
  have L11 : ∀ (f : Nat) (k : Nat), (σ 1 (14 + nw)).toNat - k < f → (k : Int) ≤ σ 1 (14 + nw) → lf (σ 1) s9 h i pay nw ((σ 1 (14 + nw)).toNat - k) k = lf (σ 1) s9 h i pay nw (σ 1 (14 + nw)).toNat 0 → hvV p l e { frames := 5, cells := 0, slots := 0, locals := 124 } s m args below meth c 8 (moR a0) 0 0 (MQ below (moQ D cI cZ a0 (some (.int (iz (line (σ 1) s9 h i pay)))) (σ)) args s 0 0 (moR a0)) (moI D cI cZ a0 s.heap σ) 11 [(0, .ref a0), (1, .int (iz ((s9 : Nat) : Int))), (2, .int (iz ((h : Nat) : Int))), (3, .int (iz i)), (4, .int (iz (xb (pay)))), (5, .int (iz ((nw : Nat) : Int))), (6, .int (iz ((k : Nat) : Int)))] [] := by
    intro f
    induction f with
    | zero => intro _ hm; exact absurd hm (Nat.not_lt_zero _)
    | succ f ih11 =>
      intro k hm11 hk hr9
      refine hv_iload C 6 6 dX12_lineOf_11 rfl ?_
      refine hv_aload_n C 0 0 dX12_lineOf_13 rfl rfl ?_
      refine mo_geta C K 0 1 (by decide) rfl mo_hw fl_7 rfl dX12_lineOf_14 ?_
      refine hv_bipush C dX12_lineOf_17 (by decide) ?_
      refine hv_iload C 5 5 dX12_lineOf_19 rfl ?_
      refine hv_iadd C dX12_lineOf_21 ?_
      refine mo_iald C K 1 9040 (14 + nw) rfl (by omega) (by omega) (by decide) dX12_lineOf_22 ?_
      refine hv_nm (fun x2 ex2 => ?_)
      have rx2 : inI x2 := by rw [ex2]; exact hσ 1 (14 + nw)
      refine hv_icmp_ge C 90 dX12_lineOf_23 (by decide) (by omega) (by omega) (fun h23 => ?_) (fun h23 => ?_)
      · skip
        refine hv_iconst C dX12_lineOf_90 ?_
        exact mo_iret (Qc := fun _ _ _ _ => True) C hr hlk (by unfold line; rw [hw, ← hr9]; first | (have e8 : (σ 1 (14 + nw)).toNat - k = 0 := (by omega); rw [e8]; rfl) | (have e7 : (σ 1 (14 + nw)).toNat - k = ((σ 1 (14 + nw)).toNat - (k + 1)) + 1 := (by omega); rw [e7, lf, if_pos (by first | exact pyq_nt (by omega) (by assumption) | exact pyq_nf (by omega) (by assumption) | exact pyq_nb (by assumption) | exact pyq_pt (by omega) (by assumption) (by assumption) | exact pyq_pf (by omega) (by assumption) (by assumption))])) rfl dX12_lineOf_91
      · skip
        have a4 := (hl nw (by omega)).2 k (by omega)
        refine hv_sipush C dX12_lineOf_26 (by decide) ?_
        refine hv_sipush C dX12_lineOf_29 (by decide) ?_
        refine hv_iload C 5 5 dX12_lineOf_32 rfl ?_
        refine hv_imul C dX12_lineOf_34 ?_
        refine hv_iadd C dX12_lineOf_35 ?_
        refine hv_bipush C dX12_lineOf_36 (by decide) ?_
        refine hv_iload C 6 6 dX12_lineOf_38 rfl ?_
        refine hv_imul C dX12_lineOf_40 ?_
        refine hv_iadd C dX12_lineOf_41 ?_
        refine hv_istore C 7 [(7, .int (iz ((800 + (320 * ((nw : Nat) : Int))) + (20 * ((k : Nat) : Int))))), (0, .ref a0), (1, .int (iz ((s9 : Nat) : Int))), (2, .int (iz ((h : Nat) : Int))), (3, .int (iz i)), (4, .int (iz (xb (pay)))), (5, .int (iz ((nw : Nat) : Int))), (6, .int (iz ((k : Nat) : Int)))] dX12_lineOf_42 (by decide) rfl ?_
        refine hv_aload_n C 0 1 dX12_lineOf_44 rfl rfl ?_
        refine mo_geta C K 0 1 (by decide) rfl mo_hw fl_7 rfl dX12_lineOf_45 ?_
        refine hv_iload C 7 0 dX12_lineOf_48 rfl ?_
        refine hv_bipush C dX12_lineOf_50 (by decide) ?_
        refine hv_iadd C dX12_lineOf_52 ?_
        refine mo_iald C K 1 9040 (((800 + (320 * nw)) + (20 * k)) + 17) rfl (by omega) (by omega) (by decide) dX12_lineOf_53 ?_
        refine hv_nm (fun x3 ex3 => ?_)
        have rx3 : inI x3 := by rw [ex3]; exact hσ 1 (((800 + (320 * nw)) + (20 * k)) + 17)
        refine hv_bipush C dX12_lineOf_54 (by decide) ?_
        refine hv_icmp_ne C 63 dX12_lineOf_56 (by decide) (by omega) (by omega) (fun h56 => ?_) (fun h56 => ?_)
        · skip
          refine hv_iconst C dX12_lineOf_63 ?_
          refine hv_iload C 4 5 dX12_lineOf_64 rfl ?_
          have q66 := xb_in (pay)
          refine hv_icmp_ne C 84 dX12_lineOf_66 (by decide) (by omega) (by omega) (fun h66 => ?_) (fun h66 => ?_)
          · skip
            refine hv_iinc C 6 7 [(6, .int (iz (((k : Nat) : Int) + 1))), (7, .int (iz ((800 + (320 * ((nw : Nat) : Int))) + (20 * ((k : Nat) : Int))))), (0, .ref a0), (1, .int (iz ((s9 : Nat) : Int))), (2, .int (iz ((h : Nat) : Int))), (3, .int (iz i)), (4, .int (iz (xb (pay)))), (5, .int (iz ((nw : Nat) : Int)))] dX12_lineOf_84 rfl (by decide) rfl ?_
            refine hv_goto C 11 dX12_lineOf_87 (by decide) ?_
            refine hv_loc [2, 3, 4, 5, 6, 7, 0] [(0, .ref a0), (1, .int (iz ((s9 : Nat) : Int))), (2, .int (iz ((h : Nat) : Int))), (3, .int (iz i)), (4, .int (iz (xb (pay)))), (5, .int (iz ((nw : Nat) : Int))), (6, .int (iz (((k : Nat) : Int) + 1)))] rfl ?_
            exact ih11 (k + 1) (by omega) (by omega) (by have e7 : (σ 1 (14 + nw)).toNat - k = ((σ 1 (14 + nw)).toNat - (k + 1)) + 1 := (by omega); rw [e7, lf, if_neg (by first | exact pyq_nt (by omega) (by assumption) | exact pyq_nf (by omega) (by assumption) | exact pyq_nb (by assumption) | exact pyq_pt (by omega) (by assumption) (by assumption) | exact pyq_pf (by omega) (by assumption) (by assumption))] at hr9; exact hr9)
          · skip
            refine hv_aload_n C 0 1 dX12_lineOf_69 rfl rfl ?_
            refine hv_iload C 7 0 dX12_lineOf_70 rfl ?_
            refine hv_iload_n C 1 2 dX12_lineOf_72 rfl rfl ?_
            refine hv_iload_n C 2 3 dX12_lineOf_73 rfl rfl ?_
            refine hv_iload_n C 3 4 dX12_lineOf_74 rfl rfl ?_
            refine mo_call [.int (iz ((800 + (320 * ((nw : Nat) : Int))) + (20 * ((k : Nat) : Int)))), .int (iz ((s9 : Nat) : Int)), .int (iz ((h : Nat) : Int)), .int (iz i)] [] C K (k_holds l σ ((800 + (320 * nw)) + (20 * k)) s9 h i hσ (by omega) (by omega) (by omega) (by omega) (by omega) (by omega) (by omega) (by omega)) ck_holds (by decide) rfl (Nat.le_of_ble_eq_true rfl) dX12_lineOf_75 ?_
            refine hv_bif_eq C 84 dX12_lineOf_78 (by decide)  (fun h78 => ?_) (fun h78 => ?_)
            · skip
              refine hv_iinc C 6 7 [(6, .int (iz (((k : Nat) : Int) + 1))), (7, .int (iz ((800 + (320 * ((nw : Nat) : Int))) + (20 * ((k : Nat) : Int))))), (0, .ref a0), (1, .int (iz ((s9 : Nat) : Int))), (2, .int (iz ((h : Nat) : Int))), (3, .int (iz i)), (4, .int (iz (xb (pay)))), (5, .int (iz ((nw : Nat) : Int)))] dX12_lineOf_84 rfl (by decide) rfl ?_
              refine hv_goto C 11 dX12_lineOf_87 (by decide) ?_
              refine hv_loc [2, 3, 4, 5, 6, 7, 0] [(0, .ref a0), (1, .int (iz ((s9 : Nat) : Int))), (2, .int (iz ((h : Nat) : Int))), (3, .int (iz i)), (4, .int (iz (xb (pay)))), (5, .int (iz ((nw : Nat) : Int))), (6, .int (iz (((k : Nat) : Int) + 1)))] rfl ?_
              exact ih11 (k + 1) (by omega) (by omega) (by have e7 : (σ 1 (14 + nw)).toNat - k = ((σ 1 (14 + nw)).toNat - (k + 1)) + 1 := (by omega); rw [e7, lf, if_neg (by first | exact pyq_nt (by omega) (by assumption) | exact pyq_nf (by omega) (by assumption) | exact pyq_nb (by assumption) | exact pyq_pt (by omega) (by assumption) (by assumption) | exact pyq_pf (by omega) (by assumption) (by assumption))] at hr9; exact hr9)
            · skip
              refine hv_iload C 6 7 dX12_lineOf_81 rfl ?_
              exact mo_iret (Qc := fun _ _ _ _ => True) C hr hlk (by unfold line; rw [hw, ← hr9]; first | (have e8 : (σ 1 (14 + nw)).toNat - k = 0 := (by omega); rw [e8]; rfl) | (have e7 : (σ 1 (14 + nw)).toNat - k = ((σ 1 (14 + nw)).toNat - (k + 1)) + 1 := (by omega); rw [e7, lf, if_pos (by first | exact pyq_nt (by omega) (by assumption) | exact pyq_nf (by omega) (by assumption) | exact pyq_nb (by assumption) | exact pyq_pt (by omega) (by assumption) (by assumption) | exact pyq_pf (by omega) (by assumption) (by assumption))])) rfl dX12_lineOf_83
        · skip
          refine hv_iconst C dX12_lineOf_59 ?_
          refine hv_goto C 64 dX12_lineOf_60 (by decide) ?_
          refine hv_iload C 4 5 dX12_lineOf_64 rfl ?_
          have q66 := xb_in (pay)
          refine hv_icmp_ne C 84 dX12_lineOf_66 (by decide) (by omega) (by omega) (fun h66 => ?_) (fun h66 => ?_)
          · skip
            refine hv_iinc C 6 7 [(6, .int (iz (((k : Nat) : Int) + 1))), (7, .int (iz ((800 + (320 * ((nw : Nat) : Int))) + (20 * ((k : Nat) : Int))))), (0, .ref a0), (1, .int (iz ((s9 : Nat) : Int))), (2, .int (iz ((h : Nat) : Int))), (3, .int (iz i)), (4, .int (iz (xb (pay)))), (5, .int (iz ((nw : Nat) : Int)))] dX12_lineOf_84 rfl (by decide) rfl ?_
            refine hv_goto C 11 dX12_lineOf_87 (by decide) ?_
            refine hv_loc [2, 3, 4, 5, 6, 7, 0] [(0, .ref a0), (1, .int (iz ((s9 : Nat) : Int))), (2, .int (iz ((h : Nat) : Int))), (3, .int (iz i)), (4, .int (iz (xb (pay)))), (5, .int (iz ((nw : Nat) : Int))), (6, .int (iz (((k : Nat) : Int) + 1)))] rfl ?_
            exact ih11 (k + 1) (by omega) (by omega) (by have e7 : (σ 1 (14 + nw)).toNat - k = ((σ 1 (14 + nw)).toNat - (k + 1)) + 1 := (by omega); rw [e7, lf, if_neg (by first | exact pyq_nt (by omega) (by assumption) | exact pyq_nf (by omega) (by assumption) | exact pyq_nb (by assumption) | exact pyq_pt (by omega) (by assumption) (by assumption) | exact pyq_pf (by omega) (by assumption) (by assumption))] at hr9; exact hr9)
          · skip
            refine hv_aload_n C 0 1 dX12_lineOf_69 rfl rfl ?_
            refine hv_iload C 7 0 dX12_lineOf_70 rfl ?_
            refine hv_iload_n C 1 2 dX12_lineOf_72 rfl rfl ?_
            refine hv_iload_n C 2 3 dX12_lineOf_73 rfl rfl ?_
            refine hv_iload_n C 3 4 dX12_lineOf_74 rfl rfl ?_
            refine mo_call [.int (iz ((800 + (320 * ((nw : Nat) : Int))) + (20 * ((k : Nat) : Int)))), .int (iz ((s9 : Nat) : Int)), .int (iz ((h : Nat) : Int)), .int (iz i)] [] C K (k_holds l σ ((800 + (320 * nw)) + (20 * k)) s9 h i hσ (by omega) (by omega) (by omega) (by omega) (by omega) (by omega) (by omega) (by omega)) ck_holds (by decide) rfl (Nat.le_of_ble_eq_true rfl) dX12_lineOf_75 ?_
            refine hv_bif_eq C 84 dX12_lineOf_78 (by decide)  (fun h78 => ?_) (fun h78 => ?_)
            · skip
              refine hv_iinc C 6 7 [(6, .int (iz (((k : Nat) : Int) + 1))), (7, .int (iz ((800 + (320 * ((nw : Nat) : Int))) + (20 * ((k : Nat) : Int))))), (0, .ref a0), (1, .int (iz ((s9 : Nat) : Int))), (2, .int (iz ((h : Nat) : Int))), (3, .int (iz i)), (4, .int (iz (xb (pay)))), (5, .int (iz ((nw : Nat) : Int)))] dX12_lineOf_84 rfl (by decide) rfl ?_
              refine hv_goto C 11 dX12_lineOf_87 (by decide) ?_
              refine hv_loc [2, 3, 4, 5, 6, 7, 0] [(0, .ref a0), (1, .int (iz ((s9 : Nat) : Int))), (2, .int (iz ((h : Nat) : Int))), (3, .int (iz i)), (4, .int (iz (xb (pay)))), (5, .int (iz ((nw : Nat) : Int))), (6, .int (iz (((k : Nat) : Int) + 1)))] rfl ?_
              exact ih11 (k + 1) (by omega) (by omega) (by have e7 : (σ 1 (14 + nw)).toNat - k = ((σ 1 (14 + nw)).toNat - (k + 1)) + 1 := (by omega); rw [e7, lf, if_neg (by first | exact pyq_nt (by omega) (by assumption) | exact pyq_nf (by omega) (by assumption) | exact pyq_nb (by assumption) | exact pyq_pt (by omega) (by assumption) (by assumption) | exact pyq_pf (by omega) (by assumption) (by assumption))] at hr9; exact hr9)
            · skip
              refine hv_iload C 6 7 dX12_lineOf_81 rfl ?_
              exact mo_iret (Qc := fun _ _ _ _ => True) C hr hlk (by unfold line; rw [hw, ← hr9]; first | (have e8 : (σ 1 (14 + nw)).toNat - k = 0 := (by omega); rw [e8]; rfl) | (have e7 : (σ 1 (14 + nw)).toNat - k = ((σ 1 (14 + nw)).toNat - (k + 1)) + 1 := (by omega); rw [e7, lf, if_pos (by first | exact pyq_nt (by omega) (by assumption) | exact pyq_nf (by omega) (by assumption) | exact pyq_nb (by assumption) | exact pyq_pt (by omega) (by assumption) (by assumption) | exact pyq_pf (by omega) (by assumption) (by assumption))])) rfl dX12_lineOf_83
  refine hv_loc [2, 3, 4, 5, 6, 1, 0] [(0, .ref a0), (1, .int (iz ((s9 : Nat) : Int))), (2, .int (iz ((h : Nat) : Int))), (3, .int (iz i)), (4, .int (iz (xb (pay)))), (5, .int (iz ((nw : Nat) : Int))), (6, .int (iz 0))] rfl ?_
  exact L11 _ 0 (Nat.lt_succ_self _) (by omega) rfl
theorem dX12_isCleared_0 : decode cX12_isCleared 0 = .ok (.aload_n 0, 1) := by decide +kernel
theorem dX12_isCleared_1 : decode cX12_isCleared 1 = .ok (.iload_n 1, 1) := by decide +kernel
theorem dX12_isCleared_2 : decode cX12_isCleared 2 = .ok (.iload_n 2, 1) := by decide +kernel
theorem dX12_isCleared_3 : decode cX12_isCleared 3 = .ok (.iload_n 3, 1) := by decide +kernel
theorem dX12_isCleared_4 : decode cX12_isCleared 4 = .ok (.iconst 0, 1) := by decide +kernel
theorem dX12_isCleared_5 : decode cX12_isCleared 5 = .ok (.invokevirtual 206, 3) := by decide +kernel
theorem dX12_isCleared_8 : decode cX12_isCleared 8 = .ok (.istore 4, 2) := by decide +kernel
theorem dX12_isCleared_10 : decode cX12_isCleared 10 = .ok (.iload 4, 2) := by decide +kernel
theorem dX12_isCleared_12 : decode cX12_isCleared 12 = .ok (.ifCond .lt 21, 3) := by decide +kernel
theorem dX12_isCleared_15 : decode cX12_isCleared 15 = .ok (.aload_n 0, 1) := by decide +kernel
theorem dX12_isCleared_16 : decode cX12_isCleared 16 = .ok (.iload_n 2, 1) := by decide +kernel
theorem dX12_isCleared_17 : decode cX12_isCleared 17 = .ok (.iload 4, 2) := by decide +kernel
theorem dX12_isCleared_19 : decode cX12_isCleared 19 = .ok (.bipush 17, 2) := by decide +kernel
theorem dX12_isCleared_21 : decode cX12_isCleared 21 = .ok (.invokevirtual 210, 3) := by decide +kernel
theorem dX12_isCleared_24 : decode cX12_isCleared 24 = .ok (.bipush 20, 2) := by decide +kernel
theorem dX12_isCleared_26 : decode cX12_isCleared 26 = .ok (.if_icmp .ne 7, 3) := by decide +kernel
theorem dX12_isCleared_29 : decode cX12_isCleared 29 = .ok (.iconst 1, 1) := by decide +kernel
theorem dX12_isCleared_30 : decode cX12_isCleared 30 = .ok (.goto 4, 3) := by decide +kernel
theorem dX12_isCleared_33 : decode cX12_isCleared 33 = .ok (.iconst 0, 1) := by decide +kernel
theorem dX12_isCleared_34 : decode cX12_isCleared 34 = .ok (.ireturn, 1) := by decide +kernel
set_option maxRecDepth 100000 in
set_option maxHeartbeats 4000000 in
theorem k_isCleared (l : Launch) {D : va_G} {cI cZ : ClassId} {a0 : Nat} (σ : Nat → Nat → Int) (s9 : Nat) (h : Nat) (i : Int) (hσ : rg σ) (hc : cn (σ 1)) (hs : si (σ 1)) (hh : hi (σ 1)) (hl : li (σ 1)) (h1 : (s9 : Int) < σ 1 2) (h2 : (h : Int) < σ 1 4) (h3 : 0 ≤ i ∧ i ≤ 3) : moM l D cI cZ a0 yX12_isCleared cX12_isCleared 5 (some .boolean) 6 151 [.ref a0, .int (iz ((s9 : Nat) : Int)), .int (iz ((h : Nat) : Int)), .int (iz i)] σ (some (.int (iz (xb (clr (σ 1) s9 h i))))) (σ) := by
  refine mo_start (by decide) rfl (Nat.le_of_ble_eq_true rfl) ?_
  intro p e s m args below meth c C K hr hlk
  have h9 := line_rng s9 i false hh hl h2
  refine hv_aload_n C 0 0 dX12_isCleared_0 rfl rfl ?_
  refine hv_iload_n C 1 1 dX12_isCleared_1 rfl rfl ?_
  refine hv_iload_n C 2 2 dX12_isCleared_2 rfl rfl ?_
  refine hv_iload_n C 3 3 dX12_isCleared_3 rfl rfl ?_
  refine hv_iconst C dX12_isCleared_4 ?_
  refine mo_call [.int (iz ((s9 : Nat) : Int)), .int (iz ((h : Nat) : Int)), .int (iz i), .int (iz 0)] [] C K (k_lineOf l σ s9 h i false hσ (by omega) (by omega) (by omega) (by omega) (by omega) (by omega) (by omega)) ck_lineOf (by decide) rfl (Nat.le_of_ble_eq_true rfl) dX12_isCleared_5 ?_
  refine hv_nm (fun x1 ex1 => ?_)
  have rx1 : inI x1 := by rw [ex1]; exact (by omega)
  refine hv_istore C 4 [(4, .int (iz x1)), (0, .ref a0), (1, .int (iz ((s9 : Nat) : Int))), (2, .int (iz ((h : Nat) : Int))), (3, .int (iz i))] dX12_isCleared_8 (by decide) rfl ?_
  refine hv_iload C 4 0 dX12_isCleared_10 rfl ?_
  refine hv_if_lt C 33 dX12_isCleared_12 (by decide) (by omega) (fun h12 => ?_) (fun h12 => ?_)
  · skip
    refine hv_iconst C dX12_isCleared_33 ?_
    exact mo_zret (Qc := fun _ _ _ _ => True) C hr hlk ((xb_f (by first | (simp only [clr, hq, Bool.and_eq_true, decide_eq_true_eq]; omega) | (simp only [clr, hq, Bool.and_eq_false_iff, decide_eq_false_iff_not]; omega) | (simp only [clr, Bool.and_eq_false_iff, decide_eq_false_iff_not]; omega))).symm) rfl dX12_isCleared_34
  · skip
    obtain ⟨kn, rfl⟩ : ∃ n : Nat, x1 = (n : Int) := ⟨(x1).toNat, by omega⟩
    have hq : (line (σ 1) s9 h i false).toNat = kn := by omega
    refine hv_aload_n C 0 1 dX12_isCleared_15 rfl rfl ?_
    refine hv_iload_n C 2 3 dX12_isCleared_16 rfl rfl ?_
    refine hv_iload C 4 0 dX12_isCleared_17 rfl ?_
    refine hv_bipush C dX12_isCleared_19 (by decide) ?_
    refine mo_call [.int (iz ((h : Nat) : Int)), .int (iz ((kn : Nat) : Int)), .int (iz 17)] [] C K (k_lineAt l σ h kn 17 hσ (by omega) (by omega) (by omega) (by omega) (by omega)) ck_lineAt (by decide) rfl (Nat.le_of_ble_eq_true rfl) dX12_isCleared_21 ?_
    refine hv_nm (fun x2 ex2 => ?_)
    have rx2 : inI x2 := by rw [ex2]; exact (by unfold la; exact hσ _ _)
    refine hv_bipush C dX12_isCleared_24 (by decide) ?_
    refine hv_icmp_ne C 33 dX12_isCleared_26 (by decide) (by omega) (by omega) (fun h26 => ?_) (fun h26 => ?_)
    · skip
      refine hv_iconst C dX12_isCleared_33 ?_
      exact mo_zret (Qc := fun _ _ _ _ => True) C hr hlk ((xb_f (by first | (simp only [clr, hq, Bool.and_eq_true, decide_eq_true_eq]; omega) | (simp only [clr, hq, Bool.and_eq_false_iff, decide_eq_false_iff_not]; omega) | (simp only [clr, Bool.and_eq_false_iff, decide_eq_false_iff_not]; omega))).symm) rfl dX12_isCleared_34
    · skip
      refine hv_iconst C dX12_isCleared_29 ?_
      refine hv_goto C 34 dX12_isCleared_30 (by decide) ?_
      exact mo_zret (Qc := fun _ _ _ _ => True) C hr hlk ((xb_t (by first | (simp only [clr, hq, Bool.and_eq_true, decide_eq_true_eq]; omega) | (simp only [clr, hq, Bool.and_eq_false_iff, decide_eq_false_iff_not]; omega) | (simp only [clr, Bool.and_eq_false_iff, decide_eq_false_iff_not]; omega))).symm) rfl dX12_isCleared_34
theorem dX12_clears_0 : decode cX12_clears 0 = .ok (.aload_n 0, 1) := by decide +kernel
theorem dX12_clears_1 : decode cX12_clears 1 = .ok (.iload_n 1, 1) := by decide +kernel
theorem dX12_clears_2 : decode cX12_clears 2 = .ok (.iload_n 2, 1) := by decide +kernel
theorem dX12_clears_3 : decode cX12_clears 3 = .ok (.iload_n 3, 1) := by decide +kernel
theorem dX12_clears_4 : decode cX12_clears 4 = .ok (.invokevirtual 216, 3) := by decide +kernel
theorem dX12_clears_7 : decode cX12_clears 7 = .ok (.ifCond .eq 17, 3) := by decide +kernel
theorem dX12_clears_10 : decode cX12_clears 10 = .ok (.aload_n 0, 1) := by decide +kernel
theorem dX12_clears_11 : decode cX12_clears 11 = .ok (.iload_n 1, 1) := by decide +kernel
theorem dX12_clears_12 : decode cX12_clears 12 = .ok (.iload_n 2, 1) := by decide +kernel
theorem dX12_clears_13 : decode cX12_clears 13 = .ok (.iload_n 3, 1) := by decide +kernel
theorem dX12_clears_14 : decode cX12_clears 14 = .ok (.invokevirtual 219, 3) := by decide +kernel
theorem dX12_clears_17 : decode cX12_clears 17 = .ok (.ifCond .eq 7, 3) := by decide +kernel
theorem dX12_clears_20 : decode cX12_clears 20 = .ok (.iconst 1, 1) := by decide +kernel
theorem dX12_clears_21 : decode cX12_clears 21 = .ok (.goto 4, 3) := by decide +kernel
theorem dX12_clears_24 : decode cX12_clears 24 = .ok (.iconst 0, 1) := by decide +kernel
theorem dX12_clears_25 : decode cX12_clears 25 = .ok (.ireturn, 1) := by decide +kernel
set_option maxRecDepth 100000 in
set_option maxHeartbeats 4000000 in
theorem k_clears (l : Launch) {D : va_G} {cI cZ : ClassId} {a0 : Nat} (σ : Nat → Nat → Int) (st : Int) (h : Int) (i : Int) (hσ : rg σ) (hc : cn (σ 1)) (hs : si (σ 1)) (hh : hi (σ 1)) (hl : li (σ 1)) (r_st : inI st) (r_h : inI h) (r_i : inI i) : moM l D cI cZ a0 yX12_clears cX12_clears 4 (some .boolean) 7 175 [.ref a0, .int (iz st), .int (iz h), .int (iz i)] σ (some (.int (iz (xb (decide ((0 ≤ st ∧ st ≤ σ 1 2 - 1) ∧ ((0 ≤ h ∧ h ≤ σ 1 4 - 1) ∧ (σ 1 9 = -1 ∨ σ 1 ((280 + (8 * h.toNat)) + 7) ≤ σ 1 9)) ∧ (0 ≤ i ∧ i ≤ σ 1 ((280 + (8 * h.toNat)) + 3) - 1)) && clr (σ 1) st.toNat h.toNat i))))) (σ) := by
  refine mo_start (by decide) rfl (Nat.le_of_ble_eq_true rfl) ?_
  intro p e s m args below meth c C K hr hlk
  refine hv_aload_n C 0 0 dX12_clears_0 rfl rfl ?_
  refine hv_iload_n C 1 1 dX12_clears_1 rfl rfl ?_
  refine hv_iload_n C 2 2 dX12_clears_2 rfl rfl ?_
  refine hv_iload_n C 3 3 dX12_clears_3 rfl rfl ?_
  refine mo_call [.int (iz st), .int (iz h), .int (iz i)] [] C K (k_isAsked l σ st h i hσ (by omega) (by omega) (by omega) (by omega) (by omega)) ck_isAsked (by decide) rfl (Nat.le_of_ble_eq_true rfl) dX12_clears_4 ?_
  refine hv_dif_eq C 24 dX12_clears_7 (by decide)  (fun h7 => ?_) (fun h7 => ?_)
  · skip
    refine hv_iconst C dX12_clears_24 ?_
    exact mo_zret (Qc := fun _ _ _ _ => True) C hr hlk ((xb_f (by (try simp only [Int.toNat_natCast] at *); first | (simp only [Bool.and_eq_true, decide_eq_true_eq]; exact ⟨by omega, by assumption⟩) | (simp only [Bool.and_eq_false_iff, decide_eq_false_iff_not]; first | (left; omega) | (right; assumption)))).symm) rfl dX12_clears_25
  · skip
    obtain ⟨sn, rfl⟩ : ∃ n : Nat, st = (n : Int) := ⟨(st).toNat, by omega⟩
    obtain ⟨hn, rfl⟩ : ∃ n : Nat, h = (n : Int) := ⟨(h).toNat, by omega⟩
    have hhn := hh hn (by omega)
    (try simp only [Int.toNat_natCast] at *)
    refine hv_aload_n C 0 0 dX12_clears_10 rfl rfl ?_
    refine hv_iload_n C 1 1 dX12_clears_11 rfl rfl ?_
    refine hv_iload_n C 2 2 dX12_clears_12 rfl rfl ?_
    refine hv_iload_n C 3 3 dX12_clears_13 rfl rfl ?_
    refine mo_call [.int (iz ((sn : Nat) : Int)), .int (iz ((hn : Nat) : Int)), .int (iz i)] [] C K (k_isCleared l σ sn hn i hσ (by omega) (by omega) (by omega) (by omega) (by omega) (by omega) (by omega)) ck_isCleared (by decide) rfl (Nat.le_of_ble_eq_true rfl) dX12_clears_14 ?_
    refine hv_bif_eq C 24 dX12_clears_17 (by decide)  (fun h17 => ?_) (fun h17 => ?_)
    · skip
      refine hv_iconst C dX12_clears_24 ?_
      exact mo_zret (Qc := fun _ _ _ _ => True) C hr hlk ((xb_f (by (try simp only [Int.toNat_natCast] at *); first | (simp only [Bool.and_eq_true, decide_eq_true_eq]; exact ⟨by omega, by assumption⟩) | (simp only [Bool.and_eq_false_iff, decide_eq_false_iff_not]; first | (left; omega) | (right; assumption)))).symm) rfl dX12_clears_25
    · skip
      refine hv_iconst C dX12_clears_20 ?_
      refine hv_goto C 25 dX12_clears_21 (by decide) ?_
      exact mo_zret (Qc := fun _ _ _ _ => True) C hr hlk ((xb_t (by (try simp only [Int.toNat_natCast] at *); first | (simp only [Bool.and_eq_true, decide_eq_true_eq]; exact ⟨by omega, by assumption⟩) | (simp only [Bool.and_eq_false_iff, decide_eq_false_iff_not]; first | (left; omega) | (right; assumption)))).symm) rfl dX12_clears_25
theorem dX12_why_0 : decode cX12_why 0 = .ok (.aload_n 0, 1) := by decide +kernel
theorem dX12_why_1 : decode cX12_why 1 = .ok (.iload_n 1, 1) := by decide +kernel
theorem dX12_why_2 : decode cX12_why 2 = .ok (.iload_n 2, 1) := by decide +kernel
theorem dX12_why_3 : decode cX12_why 3 = .ok (.iload_n 3, 1) := by decide +kernel
theorem dX12_why_4 : decode cX12_why 4 = .ok (.invokevirtual 216, 3) := by decide +kernel
theorem dX12_why_7 : decode cX12_why 7 = .ok (.ifCond .eq 15, 3) := by decide +kernel
theorem dX12_why_10 : decode cX12_why 10 = .ok (.aload_n 0, 1) := by decide +kernel
theorem dX12_why_11 : decode cX12_why 11 = .ok (.iload_n 1, 1) := by decide +kernel
theorem dX12_why_12 : decode cX12_why 12 = .ok (.iload_n 2, 1) := by decide +kernel
theorem dX12_why_13 : decode cX12_why 13 = .ok (.iload_n 3, 1) := by decide +kernel
theorem dX12_why_14 : decode cX12_why 14 = .ok (.iload 4, 2) := by decide +kernel
theorem dX12_why_16 : decode cX12_why 16 = .ok (.invokevirtual 206, 3) := by decide +kernel
theorem dX12_why_19 : decode cX12_why 19 = .ok (.goto 4, 3) := by decide +kernel
theorem dX12_why_22 : decode cX12_why 22 = .ok (.iconst (-1), 1) := by decide +kernel
theorem dX12_why_23 : decode cX12_why 23 = .ok (.ireturn, 1) := by decide +kernel
set_option maxRecDepth 100000 in
set_option maxHeartbeats 4000000 in
theorem k_why (l : Launch) {D : va_G} {cI cZ : ClassId} {a0 : Nat} (σ : Nat → Nat → Int) (st : Int) (h : Int) (i : Int) (pay : Bool) (hσ : rg σ) (hc : cn (σ 1)) (hs : si (σ 1)) (hh : hi (σ 1)) (hl : li (σ 1)) (r_st : inI st) (r_h : inI h) (r_i : inI i) : moM l D cI cZ a0 yX12_why cX12_why 5 (some .int) 6 151 [.ref a0, .int (iz st), .int (iz h), .int (iz i), .int (iz (xb pay))] σ (some (.int (iz (if (0 ≤ st ∧ st ≤ σ 1 2 - 1) ∧ ((0 ≤ h ∧ h ≤ σ 1 4 - 1) ∧ (σ 1 9 = -1 ∨ σ 1 ((280 + (8 * h.toNat)) + 7) ≤ σ 1 9)) ∧ (0 ≤ i ∧ i ≤ σ 1 ((280 + (8 * h.toNat)) + 3) - 1) then line (σ 1) st.toNat h.toNat i pay else -1)))) (σ) := by
  refine mo_start (by decide) rfl (Nat.le_of_ble_eq_true rfl) ?_
  intro p e s m args below meth c C K hr hlk
  refine hv_aload_n C 0 0 dX12_why_0 rfl rfl ?_
  refine hv_iload_n C 1 1 dX12_why_1 rfl rfl ?_
  refine hv_iload_n C 2 2 dX12_why_2 rfl rfl ?_
  refine hv_iload_n C 3 3 dX12_why_3 rfl rfl ?_
  refine mo_call [.int (iz st), .int (iz h), .int (iz i)] [] C K (k_isAsked l σ st h i hσ (by omega) (by omega) (by omega) (by omega) (by omega)) ck_isAsked (by decide) rfl (Nat.le_of_ble_eq_true rfl) dX12_why_4 ?_
  refine hv_dif_eq C 22 dX12_why_7 (by decide)  (fun h7 => ?_) (fun h7 => ?_)
  · skip
    refine hv_iconst C dX12_why_22 ?_
    exact mo_iret (Qc := fun _ _ _ _ => True) C hr hlk (by (try simp only [Int.toNat_natCast] at *); first | exact if_n (by omega) rfl | (refine if_p (by omega) ?_; subst_vars; simp)) rfl dX12_why_23
  · skip
    obtain ⟨sn, rfl⟩ : ∃ n : Nat, st = (n : Int) := ⟨(st).toNat, by omega⟩
    obtain ⟨hn, rfl⟩ : ∃ n : Nat, h = (n : Int) := ⟨(h).toNat, by omega⟩
    have hhn := hh hn (by omega)
    (try simp only [Int.toNat_natCast] at *)
    refine hv_aload_n C 0 0 dX12_why_10 rfl rfl ?_
    refine hv_iload_n C 1 1 dX12_why_11 rfl rfl ?_
    refine hv_iload_n C 2 2 dX12_why_12 rfl rfl ?_
    refine hv_iload_n C 3 3 dX12_why_13 rfl rfl ?_
    refine hv_iload C 4 4 dX12_why_14 rfl ?_
    refine mo_call [.int (iz ((sn : Nat) : Int)), .int (iz ((hn : Nat) : Int)), .int (iz i), .int (iz (xb (pay)))] [] C K (k_lineOf l σ sn hn i (pay) hσ (by omega) (by omega) (by omega) (by omega) (by omega) (by omega) (by omega)) ck_lineOf (by decide) rfl (Nat.le_of_ble_eq_true rfl) dX12_why_16 ?_
    refine hv_nm (fun x1 ex1 => ?_)
    refine hv_goto C 23 dX12_why_19 (by decide) ?_
    exact mo_iret (Qc := fun _ _ _ _ => True) C hr hlk (by (try simp only [Int.toNat_natCast] at *); first | exact if_n (by omega) rfl | (refine if_p (by omega) ?_; subst_vars; simp)) rfl dX12_why_23
theorem dX12_sendsOf_0 : decode cX12_sendsOf 0 = .ok (.aload_n 0, 1) := by decide +kernel
theorem dX12_sendsOf_1 : decode cX12_sendsOf 1 = .ok (.iload_n 1, 1) := by decide +kernel
theorem dX12_sendsOf_2 : decode cX12_sendsOf 2 = .ok (.iload_n 2, 1) := by decide +kernel
theorem dX12_sendsOf_3 : decode cX12_sendsOf 3 = .ok (.iload_n 3, 1) := by decide +kernel
theorem dX12_sendsOf_4 : decode cX12_sendsOf 4 = .ok (.invokevirtual 222, 3) := by decide +kernel
theorem dX12_sendsOf_7 : decode cX12_sendsOf 7 = .ok (.istore 4, 2) := by decide +kernel
theorem dX12_sendsOf_9 : decode cX12_sendsOf 9 = .ok (.iload 4, 2) := by decide +kernel
theorem dX12_sendsOf_11 : decode cX12_sendsOf 11 = .ok (.ifCond .lt 9, 3) := by decide +kernel
theorem dX12_sendsOf_14 : decode cX12_sendsOf 14 = .ok (.bipush 100, 2) := by decide +kernel
theorem dX12_sendsOf_16 : decode cX12_sendsOf 16 = .ok (.iload 4, 2) := by decide +kernel
theorem dX12_sendsOf_18 : decode cX12_sendsOf 18 = .ok (.iadd, 1) := by decide +kernel
theorem dX12_sendsOf_19 : decode cX12_sendsOf 19 = .ok (.ireturn, 1) := by decide +kernel
theorem dX12_sendsOf_20 : decode cX12_sendsOf 20 = .ok (.aload_n 0, 1) := by decide +kernel
theorem dX12_sendsOf_21 : decode cX12_sendsOf 21 = .ok (.iload_n 1, 1) := by decide +kernel
theorem dX12_sendsOf_22 : decode cX12_sendsOf 22 = .ok (.iload_n 2, 1) := by decide +kernel
theorem dX12_sendsOf_23 : decode cX12_sendsOf 23 = .ok (.invokevirtual 88, 3) := by decide +kernel
theorem dX12_sendsOf_26 : decode cX12_sendsOf 26 = .ok (.istore 5, 2) := by decide +kernel
theorem dX12_sendsOf_28 : decode cX12_sendsOf 28 = .ok (.iconst (-1), 1) := by decide +kernel
theorem dX12_sendsOf_29 : decode cX12_sendsOf 29 = .ok (.istore 6, 2) := by decide +kernel
theorem dX12_sendsOf_31 : decode cX12_sendsOf 31 = .ok (.iconst 0, 1) := by decide +kernel
theorem dX12_sendsOf_32 : decode cX12_sendsOf 32 = .ok (.istore 7, 2) := by decide +kernel
theorem dX12_sendsOf_34 : decode cX12_sendsOf 34 = .ok (.iload 7, 2) := by decide +kernel
theorem dX12_sendsOf_36 : decode cX12_sendsOf 36 = .ok (.aload_n 0, 1) := by decide +kernel
theorem dX12_sendsOf_37 : decode cX12_sendsOf 37 = .ok (.getfield 7, 3) := by decide +kernel
theorem dX12_sendsOf_40 : decode cX12_sendsOf 40 = .ok (.iconst 4, 1) := by decide +kernel
theorem dX12_sendsOf_41 : decode cX12_sendsOf 41 = .ok (.iaload, 1) := by decide +kernel
theorem dX12_sendsOf_42 : decode cX12_sendsOf 42 = .ok (.if_icmp .ge 93, 3) := by decide +kernel
theorem dX12_sendsOf_45 : decode cX12_sendsOf 45 = .ok (.aload_n 0, 1) := by decide +kernel
theorem dX12_sendsOf_46 : decode cX12_sendsOf 46 = .ok (.iload 7, 2) := by decide +kernel
theorem dX12_sendsOf_48 : decode cX12_sendsOf 48 = .ok (.iconst 0, 1) := by decide +kernel
theorem dX12_sendsOf_49 : decode cX12_sendsOf 49 = .ok (.invokevirtual 67, 3) := by decide +kernel
theorem dX12_sendsOf_52 : decode cX12_sendsOf 52 = .ok (.iload 5, 2) := by decide +kernel
theorem dX12_sendsOf_54 : decode cX12_sendsOf 54 = .ok (.if_icmp .ne 75, 3) := by decide +kernel
theorem dX12_sendsOf_57 : decode cX12_sendsOf 57 = .ok (.aload_n 0, 1) := by decide +kernel
theorem dX12_sendsOf_58 : decode cX12_sendsOf 58 = .ok (.iload 7, 2) := by decide +kernel
theorem dX12_sendsOf_60 : decode cX12_sendsOf 60 = .ok (.iload_n 2, 1) := by decide +kernel
theorem dX12_sendsOf_61 : decode cX12_sendsOf 61 = .ok (.iload_n 3, 1) := by decide +kernel
theorem dX12_sendsOf_62 : decode cX12_sendsOf 62 = .ok (.invokevirtual 225, 3) := by decide +kernel
theorem dX12_sendsOf_65 : decode cX12_sendsOf 65 = .ok (.ifCond .eq 64, 3) := by decide +kernel
theorem dX12_sendsOf_68 : decode cX12_sendsOf 68 = .ok (.aload_n 0, 1) := by decide +kernel
theorem dX12_sendsOf_69 : decode cX12_sendsOf 69 = .ok (.iload_n 1, 1) := by decide +kernel
theorem dX12_sendsOf_70 : decode cX12_sendsOf 70 = .ok (.iload 7, 2) := by decide +kernel
theorem dX12_sendsOf_72 : decode cX12_sendsOf 72 = .ok (.iload_n 3, 1) := by decide +kernel
theorem dX12_sendsOf_73 : decode cX12_sendsOf 73 = .ok (.aload_n 0, 1) := by decide +kernel
theorem dX12_sendsOf_74 : decode cX12_sendsOf 74 = .ok (.iload 7, 2) := by decide +kernel
theorem dX12_sendsOf_76 : decode cX12_sendsOf 76 = .ok (.iconst 2, 1) := by decide +kernel
theorem dX12_sendsOf_77 : decode cX12_sendsOf 77 = .ok (.invokevirtual 67, 3) := by decide +kernel
theorem dX12_sendsOf_80 : decode cX12_sendsOf 80 = .ok (.isub, 1) := by decide +kernel
theorem dX12_sendsOf_81 : decode cX12_sendsOf 81 = .ok (.invokevirtual 219, 3) := by decide +kernel
theorem dX12_sendsOf_84 : decode cX12_sendsOf 84 = .ok (.ifCond .ne 6, 3) := by decide +kernel
theorem dX12_sendsOf_87 : decode cX12_sendsOf 87 = .ok (.goto 42, 3) := by decide +kernel
theorem dX12_sendsOf_90 : decode cX12_sendsOf 90 = .ok (.aload_n 0, 1) := by decide +kernel
theorem dX12_sendsOf_91 : decode cX12_sendsOf 91 = .ok (.iload 7, 2) := by decide +kernel
theorem dX12_sendsOf_93 : decode cX12_sendsOf 93 = .ok (.bipush 6, 2) := by decide +kernel
theorem dX12_sendsOf_95 : decode cX12_sendsOf 95 = .ok (.invokevirtual 67, 3) := by decide +kernel
theorem dX12_sendsOf_98 : decode cX12_sendsOf 98 = .ok (.iload_n 1, 1) := by decide +kernel
theorem dX12_sendsOf_99 : decode cX12_sendsOf 99 = .ok (.ishr, 1) := by decide +kernel
theorem dX12_sendsOf_100 : decode cX12_sendsOf 100 = .ok (.iconst 1, 1) := by decide +kernel
theorem dX12_sendsOf_101 : decode cX12_sendsOf 101 = .ok (.iand, 1) := by decide +kernel
theorem dX12_sendsOf_102 : decode cX12_sendsOf 102 = .ok (.iconst 1, 1) := by decide +kernel
theorem dX12_sendsOf_103 : decode cX12_sendsOf 103 = .ok (.if_icmp .ne 6, 3) := by decide +kernel
theorem dX12_sendsOf_106 : decode cX12_sendsOf 106 = .ok (.iload 7, 2) := by decide +kernel
theorem dX12_sendsOf_108 : decode cX12_sendsOf 108 = .ok (.ireturn, 1) := by decide +kernel
theorem dX12_sendsOf_109 : decode cX12_sendsOf 109 = .ok (.aload_n 0, 1) := by decide +kernel
theorem dX12_sendsOf_110 : decode cX12_sendsOf 110 = .ok (.iload 7, 2) := by decide +kernel
theorem dX12_sendsOf_112 : decode cX12_sendsOf 112 = .ok (.bipush 6, 2) := by decide +kernel
theorem dX12_sendsOf_114 : decode cX12_sendsOf 114 = .ok (.invokevirtual 67, 3) := by decide +kernel
theorem dX12_sendsOf_117 : decode cX12_sendsOf 117 = .ok (.ifCond .ne 12, 3) := by decide +kernel
theorem dX12_sendsOf_120 : decode cX12_sendsOf 120 = .ok (.iload 6, 2) := by decide +kernel
theorem dX12_sendsOf_122 : decode cX12_sendsOf 122 = .ok (.ifCond .ge 7, 3) := by decide +kernel
theorem dX12_sendsOf_125 : decode cX12_sendsOf 125 = .ok (.iload 7, 2) := by decide +kernel
theorem dX12_sendsOf_127 : decode cX12_sendsOf 127 = .ok (.istore 6, 2) := by decide +kernel
theorem dX12_sendsOf_129 : decode cX12_sendsOf 129 = .ok (.iinc 7 1, 3) := by decide +kernel
theorem dX12_sendsOf_132 : decode cX12_sendsOf 132 = .ok (.goto (-98), 3) := by decide +kernel
theorem dX12_sendsOf_135 : decode cX12_sendsOf 135 = .ok (.iload 6, 2) := by decide +kernel
theorem dX12_sendsOf_137 : decode cX12_sendsOf 137 = .ok (.ifCond .lt 6, 3) := by decide +kernel
theorem dX12_sendsOf_140 : decode cX12_sendsOf 140 = .ok (.iload 6, 2) := by decide +kernel
theorem dX12_sendsOf_142 : decode cX12_sendsOf 142 = .ok (.ireturn, 1) := by decide +kernel
theorem dX12_sendsOf_143 : decode cX12_sendsOf 143 = .ok (.aload_n 0, 1) := by decide +kernel
theorem dX12_sendsOf_144 : decode cX12_sendsOf 144 = .ok (.aload_n 0, 1) := by decide +kernel
theorem dX12_sendsOf_145 : decode cX12_sendsOf 145 = .ok (.iload_n 1, 1) := by decide +kernel
theorem dX12_sendsOf_146 : decode cX12_sendsOf 146 = .ok (.iconst 1, 1) := by decide +kernel
theorem dX12_sendsOf_147 : decode cX12_sendsOf 147 = .ok (.invokevirtual 189, 3) := by decide +kernel
theorem dX12_sendsOf_150 : decode cX12_sendsOf 150 = .ok (.iload_n 2, 1) := by decide +kernel
theorem dX12_sendsOf_151 : decode cX12_sendsOf 151 = .ok (.iload_n 3, 1) := by decide +kernel
theorem dX12_sendsOf_152 : decode cX12_sendsOf 152 = .ok (.invokevirtual 84, 3) := by decide +kernel
theorem dX12_sendsOf_155 : decode cX12_sendsOf 155 = .ok (.invokestatic 192, 3) := by decide +kernel
theorem dX12_sendsOf_158 : decode cX12_sendsOf 158 = .ok (.istore 7, 2) := by decide +kernel
theorem dX12_sendsOf_160 : decode cX12_sendsOf 160 = .ok (.aload_n 0, 1) := by decide +kernel
theorem dX12_sendsOf_161 : decode cX12_sendsOf 161 = .ok (.iload_n 1, 1) := by decide +kernel
theorem dX12_sendsOf_162 : decode cX12_sendsOf 162 = .ok (.iconst 3, 1) := by decide +kernel
theorem dX12_sendsOf_163 : decode cX12_sendsOf 163 = .ok (.invokevirtual 189, 3) := by decide +kernel
theorem dX12_sendsOf_166 : decode cX12_sendsOf 166 = .ok (.iload 7, 2) := by decide +kernel
theorem dX12_sendsOf_168 : decode cX12_sendsOf 168 = .ok (.bipush 6, 2) := by decide +kernel
theorem dX12_sendsOf_170 : decode cX12_sendsOf 170 = .ok (.idiv, 1) := by decide +kernel
theorem dX12_sendsOf_171 : decode cX12_sendsOf 171 = .ok (.ishr, 1) := by decide +kernel
theorem dX12_sendsOf_172 : decode cX12_sendsOf 172 = .ok (.iconst 1, 1) := by decide +kernel
theorem dX12_sendsOf_173 : decode cX12_sendsOf 173 = .ok (.iand, 1) := by decide +kernel
theorem dX12_sendsOf_174 : decode cX12_sendsOf 174 = .ok (.iconst 1, 1) := by decide +kernel
theorem dX12_sendsOf_175 : decode cX12_sendsOf 175 = .ok (.if_icmp .ne 9, 3) := by decide +kernel
theorem dX12_sendsOf_178 : decode cX12_sendsOf 178 = .ok (.sipush 200, 3) := by decide +kernel
theorem dX12_sendsOf_181 : decode cX12_sendsOf 181 = .ok (.goto 6, 3) := by decide +kernel
theorem dX12_sendsOf_184 : decode cX12_sendsOf 184 = .ok (.sipush 300, 3) := by decide +kernel
theorem dX12_sendsOf_187 : decode cX12_sendsOf 187 = .ok (.ireturn, 1) := by decide +kernel
set_option maxRecDepth 100000 in
set_option maxHeartbeats 4000000 in
theorem k_sendsOf (l : Launch) {D : va_G} {cI cZ : ClassId} {a0 : Nat} (σ : Nat → Nat → Int) (s9 : Nat) (d : Int) (t : Int) (hσ : rg σ) (hc : cn (σ 1)) (hs : si (σ 1)) (hh : hi (σ 1)) (hl : li (σ 1)) (h1 : (s9 : Int) < σ 1 2) (hd : 0 ≤ d ∧ d ≤ 199) (ht : 0 ≤ t ∧ t ≤ 50) : moM l D cI cZ a0 yX12_sendsOf cX12_sendsOf 8 (some .int) 7 175 [.ref a0, .int (iz ((s9 : Nat) : Int)), .int (iz d), .int (iz t)] σ (some (.int (iz (sd (σ 1) s9 d t)))) (σ) := by
  refine mo_start (by decide) rfl (Nat.le_of_ble_eq_true rfl) ?_
  intro p e s m args below meth c C K hr hlk
  have a1 := hs s9 h1
  have b9 := bk_rng (σ 1) s9 d t (σ 1 5).toNat
  refine hv_aload_n C 0 0 dX12_sendsOf_0 rfl rfl ?_
  refine hv_iload_n C 1 1 dX12_sendsOf_1 rfl rfl ?_
  refine hv_iload_n C 2 2 dX12_sendsOf_2 rfl rfl ?_
  refine hv_iload_n C 3 3 dX12_sendsOf_3 rfl rfl ?_
  refine mo_call [.int (iz ((s9 : Nat) : Int)), .int (iz d), .int (iz t)] [] C K (k_breakOf l σ ((s9 : Nat) : Int) d t hσ (by omega) (by omega) (by omega) (by omega)) ck_breakOf (by decide) rfl (Nat.le_of_ble_eq_true rfl) dX12_sendsOf_4 ?_
  refine hv_nm (fun x1 ex1 => ?_)
  have rx1 : inI x1 := by rw [ex1]; exact (by omega)
  refine hv_istore C 4 [(4, .int (iz x1)), (0, .ref a0), (1, .int (iz ((s9 : Nat) : Int))), (2, .int (iz d)), (3, .int (iz t))] dX12_sendsOf_7 (by decide) rfl ?_
  refine hv_iload C 4 0 dX12_sendsOf_9 rfl ?_
  refine hv_if_lt C 20 dX12_sendsOf_11 (by decide) (by omega) (fun h11 => ?_) (fun h11 => ?_)
  · skip
    refine hv_aload_n C 0 1 dX12_sendsOf_20 rfl rfl ?_
    refine hv_iload_n C 1 2 dX12_sendsOf_21 rfl rfl ?_
    refine hv_iload_n C 2 3 dX12_sendsOf_22 rfl rfl ?_
    refine mo_call [.int (iz ((s9 : Nat) : Int)), .int (iz d)] [] C K (k_memberOf l σ ((s9 : Nat) : Int) d hσ (by omega) (by omega) (by omega)) ck_memberOf (by decide) rfl (Nat.le_of_ble_eq_true rfl) dX12_sendsOf_23 ?_
    refine hv_nm (fun x2 ex2 => ?_)
    have rx2 : inI x2 := by rw [ex2]; exact (by unfold member; exact (mb_in (fun i => hσ 1 i) _ _ _).2)
    refine hv_istore C 5 [(5, .int (iz x2)), (4, .int (iz x1)), (0, .ref a0), (1, .int (iz ((s9 : Nat) : Int))), (2, .int (iz d)), (3, .int (iz t))] dX12_sendsOf_26 (by decide) rfl ?_
    refine hv_iconst C dX12_sendsOf_28 ?_
    refine hv_istore C 6 [(6, .int (iz (-1))), (5, .int (iz x2)), (4, .int (iz x1)), (0, .ref a0), (1, .int (iz ((s9 : Nat) : Int))), (2, .int (iz d)), (3, .int (iz t))] dX12_sendsOf_29 (by decide) rfl ?_
    refine hv_iconst C dX12_sendsOf_31 ?_
    refine hv_istore C 7 [(7, .int (iz 0)), (6, .int (iz (-1))), (5, .int (iz x2)), (4, .int (iz x1)), (0, .ref a0), (1, .int (iz ((s9 : Nat) : Int))), (2, .int (iz d)), (3, .int (iz t))] dX12_sendsOf_32 (by decide) rfl ?_
    have L34 : ∀ (f : Nat) (h : Nat) (kept : Int), (σ 1 4).toNat - h < f → (h : Int) ≤ σ 1 4 → -1 ≤ kept ∧ kept < 24 → sh (σ 1) s9 d t (member (σ 1) s9 d) ((σ 1 4).toNat - h) h kept = sh (σ 1) s9 d t (member (σ 1) s9 d) (σ 1 4).toNat 0 (-1) → hvV p l e { frames := 7, cells := 0, slots := 0, locals := 175 } s m args below meth c 8 (moR a0) 0 0 (MQ below (moQ D cI cZ a0 (some (.int (iz (sd (σ 1) s9 d t)))) (σ)) args s 0 0 (moR a0)) (moI D cI cZ a0 s.heap σ) 34 [(0, .ref a0), (1, .int (iz ((s9 : Nat) : Int))), (2, .int (iz d)), (3, .int (iz t)), (4, .int (iz x1)), (5, .int (iz x2)), (6, .int (iz kept)), (7, .int (iz ((h : Nat) : Int)))] [] := by
      intro f
      induction f with
      | zero => intro _ _ hm; exact absurd hm (Nat.not_lt_zero _)
      | succ f ih34 =>
        intro h kept hm34 hh0 hk hr9
        refine hv_iload C 7 7 dX12_sendsOf_34 rfl ?_
        refine hv_aload_n C 0 0 dX12_sendsOf_36 rfl rfl ?_
        refine mo_geta C K 0 1 (by decide) rfl mo_hw fl_7 rfl dX12_sendsOf_37 ?_
        refine hv_iconst C dX12_sendsOf_40 ?_
        refine mo_iald C K 1 9040 4 rfl (by omega) (by omega) (by decide) dX12_sendsOf_41 ?_
        refine hv_nm (fun x3 ex3 => ?_)
        have rx3 : inI x3 := by rw [ex3]; exact hσ 1 4
        refine hv_icmp_ge C 135 dX12_sendsOf_42 (by decide) (by omega) (by omega) (fun h42 => ?_) (fun h42 => ?_)
        · skip
          refine hv_iload C 6 6 dX12_sendsOf_135 rfl ?_
          refine hv_if_lt C 143 dX12_sendsOf_137 (by decide) (by omega) (fun h137 => ?_) (fun h137 => ?_)
          · skip
            refine hv_aload_n C 0 0 dX12_sendsOf_143 rfl rfl ?_
            refine hv_aload_n C 0 0 dX12_sendsOf_144 rfl rfl ?_
            refine hv_iload_n C 1 1 dX12_sendsOf_145 rfl rfl ?_
            refine hv_iconst C dX12_sendsOf_146 ?_
            refine mo_call [.int (iz ((s9 : Nat) : Int)), .int (iz 1)] [.ref a0] C K (k_stationOf l σ s9 1 (by omega) (by omega)) ck_stationOf (by decide) rfl (Nat.le_of_ble_eq_true rfl) dX12_sendsOf_147 ?_
            refine hv_nm (fun x4 ex4 => ?_)
            have rx4 : inI x4 := by rw [ex4]; exact hσ _ _
            obtain ⟨zn, rfl⟩ : ∃ n : Nat, x4 = (n : Int) := ⟨(x4).toNat, by omega⟩
            have hz : zo (σ 1) s9 = zn := by unfold zo; omega
            refine hv_iload_n C 2 2 dX12_sendsOf_150 rfl rfl ?_
            refine hv_iload_n C 3 3 dX12_sendsOf_151 rfl rfl ?_
            refine mo_call [.int (iz ((zn : Nat) : Int)), .int (iz d), .int (iz t)] [] C K (k_localOf l σ zn d t hσ (by omega) (by omega)) ck_localOf (by decide) rfl (Nat.le_of_ble_eq_true rfl) dX12_sendsOf_152 ?_
            refine hv_nm (fun x5 ex5 => ?_)
            have rx5 : inI x5 := by rw [ex5]; exact (by have h9 := lo_rng (σ 1) zn d t (by omega) (by omega) (by omega); omega)
            have hlo := lo_rng (σ 1) zn d t (by omega) (by omega) (by omega)
            refine mo_callS [.int (iz x5)] [] C K (k_slotOf l σ x5 (by omega)) ck_slotOf (by decide) rfl (Nat.le_of_ble_eq_true rfl) dX12_sendsOf_155 ?_
            refine hv_istore C 7 [(7, .int (iz ((x5 + 48) % 48))), (0, .ref a0), (1, .int (iz ((s9 : Nat) : Int))), (2, .int (iz d)), (3, .int (iz t)), (4, .int (iz x1)), (5, .int (iz x2)), (6, .int (iz kept))] dX12_sendsOf_158 (by decide) rfl ?_
            refine hv_aload_n C 0 1 dX12_sendsOf_160 rfl rfl ?_
            refine hv_iload_n C 1 2 dX12_sendsOf_161 rfl rfl ?_
            refine hv_iconst C dX12_sendsOf_162 ?_
            refine mo_call [.int (iz ((s9 : Nat) : Int)), .int (iz 3)] [] C K (k_stationOf l σ s9 3 (by omega) (by omega)) ck_stationOf (by decide) rfl (Nat.le_of_ble_eq_true rfl) dX12_sendsOf_163 ?_
            refine hv_nm (fun x6 ex6 => ?_)
            have rx6 : inI x6 := by rw [ex6]; exact hσ _ _
            refine hv_iload C 7 0 dX12_sendsOf_166 rfl ?_
            refine hv_bipush C dX12_sendsOf_168 (by decide) ?_
            refine hv_idiv C (by omega) (by omega) (by omega) (by omega) dX12_sendsOf_170 ?_
            refine hv_ishr C (((((x5 + 48) % 48) / 6) : Int)).toNat (by omega) (by omega) (by omega) dX12_sendsOf_171 ?_
            refine hv_iconst C dX12_sendsOf_172 ?_
            refine hv_imsk C 1 (by decide) (by decide) dX12_sendsOf_173 ?_
            refine hv_iconst C dX12_sendsOf_174 ?_
            refine hv_icmp_ne C 184 dX12_sendsOf_175 (by decide) (by omega) (by omega) (fun h175 => ?_) (fun h175 => ?_)
            · skip
              refine hv_sipush C dX12_sendsOf_184 (by decide) ?_
              exact mo_iret (Qc := fun _ _ _ _ => True) C hr hlk (by unfold sd; first | (rw [if_pos (by omega)]; omega) | (rw [if_neg (by omega), ← hr9]; first | (have e7 : (σ 1 4).toNat - h = ((σ 1 4).toNat - (h + 1)) + 1 := (by omega); rw [e7, sh]; subst_vars; rw [if_pos (by simp only [thb, Bool.and_eq_true, decide_eq_true_eq]; exact ⟨⟨by omega, by omega⟩, by assumption⟩), if_pos (by omega)]; done) | (have e8 : (σ 1 4).toNat - h = 0 := (by omega); rw [e8, sh]; first | (rw [if_pos (by omega)]; done) | (rw [if_neg (by omega)]; unfold own; rw [hz]; subst_vars; first | (rw [if_pos (by assumption)]; done) | (rw [if_neg (by assumption)]; done))))) rfl dX12_sendsOf_187
            · skip
              refine hv_sipush C dX12_sendsOf_178 (by decide) ?_
              refine hv_goto C 187 dX12_sendsOf_181 (by decide) ?_
              exact mo_iret (Qc := fun _ _ _ _ => True) C hr hlk (by unfold sd; first | (rw [if_pos (by omega)]; omega) | (rw [if_neg (by omega), ← hr9]; first | (have e7 : (σ 1 4).toNat - h = ((σ 1 4).toNat - (h + 1)) + 1 := (by omega); rw [e7, sh]; subst_vars; rw [if_pos (by simp only [thb, Bool.and_eq_true, decide_eq_true_eq]; exact ⟨⟨by omega, by omega⟩, by assumption⟩), if_pos (by omega)]; done) | (have e8 : (σ 1 4).toNat - h = 0 := (by omega); rw [e8, sh]; first | (rw [if_pos (by omega)]; done) | (rw [if_neg (by omega)]; unfold own; rw [hz]; subst_vars; first | (rw [if_pos (by assumption)]; done) | (rw [if_neg (by assumption)]; done))))) rfl dX12_sendsOf_187
          · skip
            refine hv_iload C 6 6 dX12_sendsOf_140 rfl ?_
            exact mo_iret (Qc := fun _ _ _ _ => True) C hr hlk (by unfold sd; first | (rw [if_pos (by omega)]; omega) | (rw [if_neg (by omega), ← hr9]; first | (have e7 : (σ 1 4).toNat - h = ((σ 1 4).toNat - (h + 1)) + 1 := (by omega); rw [e7, sh]; subst_vars; rw [if_pos (by simp only [thb, Bool.and_eq_true, decide_eq_true_eq]; exact ⟨⟨by omega, by omega⟩, by assumption⟩), if_pos (by omega)]; done) | (have e8 : (σ 1 4).toNat - h = 0 := (by omega); rw [e8, sh]; first | (rw [if_pos (by omega)]; done) | (rw [if_neg (by omega)]; unfold own; rw [hz]; subst_vars; first | (rw [if_pos (by assumption)]; done) | (rw [if_neg (by assumption)]; done))))) rfl dX12_sendsOf_142
        · skip
          have a2 := hh h (by omega)
          refine hv_aload_n C 0 0 dX12_sendsOf_45 rfl rfl ?_
          refine hv_iload C 7 7 dX12_sendsOf_46 rfl ?_
          refine hv_iconst C dX12_sendsOf_48 ?_
          refine mo_call [.int (iz ((h : Nat) : Int)), .int (iz 0)] [] C K (k_hourOf l σ h 0 (by omega) (by omega)) ck_hourOf (by decide) rfl (Nat.le_of_ble_eq_true rfl) dX12_sendsOf_49 ?_
          refine hv_nm (fun x7 ex7 => ?_)
          have rx7 : inI x7 := by rw [ex7]; exact hσ _ _
          refine hv_iload C 5 5 dX12_sendsOf_52 rfl ?_
          refine hv_icmp_ne C 129 dX12_sendsOf_54 (by decide) (by omega) (by omega) (fun h54 => ?_) (fun h54 => ?_)
          · skip
            refine hv_iinc C 7 7 [(7, .int (iz (((h : Nat) : Int) + 1))), (0, .ref a0), (1, .int (iz ((s9 : Nat) : Int))), (2, .int (iz d)), (3, .int (iz t)), (4, .int (iz x1)), (5, .int (iz x2)), (6, .int (iz kept))] dX12_sendsOf_129 rfl (by decide) rfl ?_
            refine hv_goto C 34 dX12_sendsOf_132 (by decide) ?_
            refine hv_loc [1, 2, 3, 4, 5, 6, 7, 0] [(0, .ref a0), (1, .int (iz ((s9 : Nat) : Int))), (2, .int (iz d)), (3, .int (iz t)), (4, .int (iz x1)), (5, .int (iz x2)), (6, .int (iz kept)), (7, .int (iz (((h : Nat) : Int) + 1)))] rfl ?_
            exact ih34 (h + 1) kept (by omega) (by omega) (by omega) (by have e7 : (σ 1 4).toNat - h = ((σ 1 4).toNat - (h + 1)) + 1 := (by omega); rw [e7, sh] at hr9; subst_vars; first | (rw [if_neg (by intro q; simp only [thb, Bool.and_eq_true, decide_eq_true_eq] at q; first | omega | (exact absurd (q.2.symm.trans (by assumption : clr (σ 1) s9 h (t - σ 1 (280 + 8 * h + 2)) = false)) (by decide)))] at hr9; exact hr9) | (rw [if_pos (by simp only [thb, Bool.and_eq_true, decide_eq_true_eq]; exact ⟨⟨by omega, by omega⟩, by assumption⟩), if_neg (by omega)] at hr9; first | (rw [if_neg (by omega)] at hr9; exact hr9) | (rw [if_pos (by omega)] at hr9; exact hr9)))
          · skip
            refine hv_aload_n C 0 0 dX12_sendsOf_57 rfl rfl ?_
            refine hv_iload C 7 7 dX12_sendsOf_58 rfl ?_
            refine hv_iload_n C 2 2 dX12_sendsOf_60 rfl rfl ?_
            refine hv_iload_n C 3 3 dX12_sendsOf_61 rfl rfl ?_
            refine mo_call [.int (iz ((h : Nat) : Int)), .int (iz d), .int (iz t)] [] C K (k_isThen l σ h d t hσ (by omega) (by omega) (by omega) (by omega) (by omega)) ck_isThen (by decide) rfl (Nat.le_of_ble_eq_true rfl) dX12_sendsOf_62 ?_
            refine hv_dif_eq C 129 dX12_sendsOf_65 (by decide)  (fun h65 => ?_) (fun h65 => ?_)
            · skip
              refine hv_iinc C 7 7 [(7, .int (iz (((h : Nat) : Int) + 1))), (0, .ref a0), (1, .int (iz ((s9 : Nat) : Int))), (2, .int (iz d)), (3, .int (iz t)), (4, .int (iz x1)), (5, .int (iz x2)), (6, .int (iz kept))] dX12_sendsOf_129 rfl (by decide) rfl ?_
              refine hv_goto C 34 dX12_sendsOf_132 (by decide) ?_
              refine hv_loc [1, 2, 3, 4, 5, 6, 7, 0] [(0, .ref a0), (1, .int (iz ((s9 : Nat) : Int))), (2, .int (iz d)), (3, .int (iz t)), (4, .int (iz x1)), (5, .int (iz x2)), (6, .int (iz kept)), (7, .int (iz (((h : Nat) : Int) + 1)))] rfl ?_
              exact ih34 (h + 1) kept (by omega) (by omega) (by omega) (by have e7 : (σ 1 4).toNat - h = ((σ 1 4).toNat - (h + 1)) + 1 := (by omega); rw [e7, sh] at hr9; subst_vars; first | (rw [if_neg (by intro q; simp only [thb, Bool.and_eq_true, decide_eq_true_eq] at q; first | omega | (exact absurd (q.2.symm.trans (by assumption : clr (σ 1) s9 h (t - σ 1 (280 + 8 * h + 2)) = false)) (by decide)))] at hr9; exact hr9) | (rw [if_pos (by simp only [thb, Bool.and_eq_true, decide_eq_true_eq]; exact ⟨⟨by omega, by omega⟩, by assumption⟩), if_neg (by omega)] at hr9; first | (rw [if_neg (by omega)] at hr9; exact hr9) | (rw [if_pos (by omega)] at hr9; exact hr9)))
            · skip
              refine hv_aload_n C 0 0 dX12_sendsOf_68 rfl rfl ?_
              refine hv_iload_n C 1 1 dX12_sendsOf_69 rfl rfl ?_
              refine hv_iload C 7 7 dX12_sendsOf_70 rfl ?_
              refine hv_iload_n C 3 3 dX12_sendsOf_72 rfl rfl ?_
              refine hv_aload_n C 0 0 dX12_sendsOf_73 rfl rfl ?_
              refine hv_iload C 7 7 dX12_sendsOf_74 rfl ?_
              refine hv_iconst C dX12_sendsOf_76 ?_
              refine mo_call [.int (iz ((h : Nat) : Int)), .int (iz 2)] [.int (iz t), .int (iz ((h : Nat) : Int)), .int (iz ((s9 : Nat) : Int)), .ref a0] C K (k_hourOf l σ h 2 (by omega) (by omega)) ck_hourOf (by decide) rfl (Nat.le_of_ble_eq_true rfl) dX12_sendsOf_77 ?_
              refine hv_nm (fun x8 ex8 => ?_)
              have rx8 : inI x8 := by rw [ex8]; exact hσ _ _
              refine hv_isub C dX12_sendsOf_80 ?_
              refine mo_call [.int (iz ((s9 : Nat) : Int)), .int (iz ((h : Nat) : Int)), .int (iz (t - x8))] [] C K (k_isCleared l σ s9 h (t - x8) hσ (by omega) (by omega) (by omega) (by omega) (by omega) (by omega) (by omega)) ck_isCleared (by decide) rfl (Nat.le_of_ble_eq_true rfl) dX12_sendsOf_81 ?_
              refine hv_bif_ne C 90 dX12_sendsOf_84 (by decide)  (fun h84 => ?_) (fun h84 => ?_)
              · skip
                refine hv_aload_n C 0 0 dX12_sendsOf_90 rfl rfl ?_
                refine hv_iload C 7 7 dX12_sendsOf_91 rfl ?_
                refine hv_bipush C dX12_sendsOf_93 (by decide) ?_
                refine mo_call [.int (iz ((h : Nat) : Int)), .int (iz 6)] [] C K (k_hourOf l σ h 6 (by omega) (by omega)) ck_hourOf (by decide) rfl (Nat.le_of_ble_eq_true rfl) dX12_sendsOf_95 ?_
                refine hv_nm (fun x9 ex9 => ?_)
                have rx9 : inI x9 := by rw [ex9]; exact hσ _ _
                refine hv_iload_n C 1 1 dX12_sendsOf_98 rfl rfl ?_
                refine hv_ishr C s9 (by omega) (by omega) (by omega) dX12_sendsOf_99 ?_
                refine hv_iconst C dX12_sendsOf_100 ?_
                refine hv_imsk C 1 (by decide) (by decide) dX12_sendsOf_101 ?_
                refine hv_iconst C dX12_sendsOf_102 ?_
                refine hv_icmp_ne C 109 dX12_sendsOf_103 (by decide) (by omega) (by omega) (fun h103 => ?_) (fun h103 => ?_)
                · skip
                  refine hv_aload_n C 0 0 dX12_sendsOf_109 rfl rfl ?_
                  refine hv_iload C 7 7 dX12_sendsOf_110 rfl ?_
                  refine hv_bipush C dX12_sendsOf_112 (by decide) ?_
                  refine mo_call [.int (iz ((h : Nat) : Int)), .int (iz 6)] [] C K (k_hourOf l σ h 6 (by omega) (by omega)) ck_hourOf (by decide) rfl (Nat.le_of_ble_eq_true rfl) dX12_sendsOf_114 ?_
                  refine hv_nm (fun x10 ex10 => ?_)
                  have rx10 : inI x10 := by rw [ex10]; exact hσ _ _
                  refine hv_if_ne C 129 dX12_sendsOf_117 (by decide) (by omega) (fun h117 => ?_) (fun h117 => ?_)
                  · skip
                    refine hv_iinc C 7 7 [(7, .int (iz (((h : Nat) : Int) + 1))), (0, .ref a0), (1, .int (iz ((s9 : Nat) : Int))), (2, .int (iz d)), (3, .int (iz t)), (4, .int (iz x1)), (5, .int (iz x2)), (6, .int (iz kept))] dX12_sendsOf_129 rfl (by decide) rfl ?_
                    refine hv_goto C 34 dX12_sendsOf_132 (by decide) ?_
                    refine hv_loc [1, 2, 3, 4, 5, 6, 7, 0] [(0, .ref a0), (1, .int (iz ((s9 : Nat) : Int))), (2, .int (iz d)), (3, .int (iz t)), (4, .int (iz x1)), (5, .int (iz x2)), (6, .int (iz kept)), (7, .int (iz (((h : Nat) : Int) + 1)))] rfl ?_
                    exact ih34 (h + 1) kept (by omega) (by omega) (by omega) (by have e7 : (σ 1 4).toNat - h = ((σ 1 4).toNat - (h + 1)) + 1 := (by omega); rw [e7, sh] at hr9; subst_vars; first | (rw [if_neg (by intro q; simp only [thb, Bool.and_eq_true, decide_eq_true_eq] at q; first | omega | (exact absurd (q.2.symm.trans (by assumption : clr (σ 1) s9 h (t - σ 1 (280 + 8 * h + 2)) = false)) (by decide)))] at hr9; exact hr9) | (rw [if_pos (by simp only [thb, Bool.and_eq_true, decide_eq_true_eq]; exact ⟨⟨by omega, by omega⟩, by assumption⟩), if_neg (by omega)] at hr9; first | (rw [if_neg (by omega)] at hr9; exact hr9) | (rw [if_pos (by omega)] at hr9; exact hr9)))
                  · skip
                    refine hv_iload C 6 6 dX12_sendsOf_120 rfl ?_
                    refine hv_if_ge C 129 dX12_sendsOf_122 (by decide) (by omega) (fun h122 => ?_) (fun h122 => ?_)
                    · skip
                      refine hv_iinc C 7 7 [(7, .int (iz (((h : Nat) : Int) + 1))), (0, .ref a0), (1, .int (iz ((s9 : Nat) : Int))), (2, .int (iz d)), (3, .int (iz t)), (4, .int (iz x1)), (5, .int (iz x2)), (6, .int (iz kept))] dX12_sendsOf_129 rfl (by decide) rfl ?_
                      refine hv_goto C 34 dX12_sendsOf_132 (by decide) ?_
                      refine hv_loc [1, 2, 3, 4, 5, 6, 7, 0] [(0, .ref a0), (1, .int (iz ((s9 : Nat) : Int))), (2, .int (iz d)), (3, .int (iz t)), (4, .int (iz x1)), (5, .int (iz x2)), (6, .int (iz kept)), (7, .int (iz (((h : Nat) : Int) + 1)))] rfl ?_
                      exact ih34 (h + 1) kept (by omega) (by omega) (by omega) (by have e7 : (σ 1 4).toNat - h = ((σ 1 4).toNat - (h + 1)) + 1 := (by omega); rw [e7, sh] at hr9; subst_vars; first | (rw [if_neg (by intro q; simp only [thb, Bool.and_eq_true, decide_eq_true_eq] at q; first | omega | (exact absurd (q.2.symm.trans (by assumption : clr (σ 1) s9 h (t - σ 1 (280 + 8 * h + 2)) = false)) (by decide)))] at hr9; exact hr9) | (rw [if_pos (by simp only [thb, Bool.and_eq_true, decide_eq_true_eq]; exact ⟨⟨by omega, by omega⟩, by assumption⟩), if_neg (by omega)] at hr9; first | (rw [if_neg (by omega)] at hr9; exact hr9) | (rw [if_pos (by omega)] at hr9; exact hr9)))
                    · skip
                      refine hv_iload C 7 7 dX12_sendsOf_125 rfl ?_
                      refine hv_istore C 6 [(6, .int (iz ((h : Nat) : Int))), (0, .ref a0), (1, .int (iz ((s9 : Nat) : Int))), (2, .int (iz d)), (3, .int (iz t)), (4, .int (iz x1)), (5, .int (iz x2)), (7, .int (iz ((h : Nat) : Int)))] dX12_sendsOf_127 (by decide) rfl ?_
                      refine hv_iinc C 7 7 [(7, .int (iz (((h : Nat) : Int) + 1))), (6, .int (iz ((h : Nat) : Int))), (0, .ref a0), (1, .int (iz ((s9 : Nat) : Int))), (2, .int (iz d)), (3, .int (iz t)), (4, .int (iz x1)), (5, .int (iz x2))] dX12_sendsOf_129 rfl (by decide) rfl ?_
                      refine hv_goto C 34 dX12_sendsOf_132 (by decide) ?_
                      refine hv_loc [2, 3, 4, 5, 6, 7, 1, 0] [(0, .ref a0), (1, .int (iz ((s9 : Nat) : Int))), (2, .int (iz d)), (3, .int (iz t)), (4, .int (iz x1)), (5, .int (iz x2)), (6, .int (iz ((h : Nat) : Int))), (7, .int (iz (((h : Nat) : Int) + 1)))] rfl ?_
                      exact ih34 (h + 1) ((h : Nat) : Int) (by omega) (by omega) (by omega) (by have e7 : (σ 1 4).toNat - h = ((σ 1 4).toNat - (h + 1)) + 1 := (by omega); rw [e7, sh] at hr9; subst_vars; first | (rw [if_neg (by intro q; simp only [thb, Bool.and_eq_true, decide_eq_true_eq] at q; first | omega | (exact absurd (q.2.symm.trans (by assumption : clr (σ 1) s9 h (t - σ 1 (280 + 8 * h + 2)) = false)) (by decide)))] at hr9; exact hr9) | (rw [if_pos (by simp only [thb, Bool.and_eq_true, decide_eq_true_eq]; exact ⟨⟨by omega, by omega⟩, by assumption⟩), if_neg (by omega)] at hr9; first | (rw [if_neg (by omega)] at hr9; exact hr9) | (rw [if_pos (by omega)] at hr9; exact hr9)))
                · skip
                  refine hv_iload C 7 7 dX12_sendsOf_106 rfl ?_
                  exact mo_iret (Qc := fun _ _ _ _ => True) C hr hlk (by unfold sd; first | (rw [if_pos (by omega)]; omega) | (rw [if_neg (by omega), ← hr9]; first | (have e7 : (σ 1 4).toNat - h = ((σ 1 4).toNat - (h + 1)) + 1 := (by omega); rw [e7, sh]; subst_vars; rw [if_pos (by simp only [thb, Bool.and_eq_true, decide_eq_true_eq]; exact ⟨⟨by omega, by omega⟩, by assumption⟩), if_pos (by omega)]; done) | (have e8 : (σ 1 4).toNat - h = 0 := (by omega); rw [e8, sh]; first | (rw [if_pos (by omega)]; done) | (rw [if_neg (by omega)]; unfold own; rw [hz]; subst_vars; first | (rw [if_pos (by assumption)]; done) | (rw [if_neg (by assumption)]; done))))) rfl dX12_sendsOf_108
              · skip
                refine hv_goto C 129 dX12_sendsOf_87 (by decide) ?_
                refine hv_iinc C 7 7 [(7, .int (iz (((h : Nat) : Int) + 1))), (0, .ref a0), (1, .int (iz ((s9 : Nat) : Int))), (2, .int (iz d)), (3, .int (iz t)), (4, .int (iz x1)), (5, .int (iz x2)), (6, .int (iz kept))] dX12_sendsOf_129 rfl (by decide) rfl ?_
                refine hv_goto C 34 dX12_sendsOf_132 (by decide) ?_
                refine hv_loc [1, 2, 3, 4, 5, 6, 7, 0] [(0, .ref a0), (1, .int (iz ((s9 : Nat) : Int))), (2, .int (iz d)), (3, .int (iz t)), (4, .int (iz x1)), (5, .int (iz x2)), (6, .int (iz kept)), (7, .int (iz (((h : Nat) : Int) + 1)))] rfl ?_
                exact ih34 (h + 1) kept (by omega) (by omega) (by omega) (by have e7 : (σ 1 4).toNat - h = ((σ 1 4).toNat - (h + 1)) + 1 := (by omega); rw [e7, sh] at hr9; subst_vars; first | (rw [if_neg (by intro q; simp only [thb, Bool.and_eq_true, decide_eq_true_eq] at q; first | omega | (exact absurd (q.2.symm.trans (by assumption : clr (σ 1) s9 h (t - σ 1 (280 + 8 * h + 2)) = false)) (by decide)))] at hr9; exact hr9) | (rw [if_pos (by simp only [thb, Bool.and_eq_true, decide_eq_true_eq]; exact ⟨⟨by omega, by omega⟩, by assumption⟩), if_neg (by omega)] at hr9; first | (rw [if_neg (by omega)] at hr9; exact hr9) | (rw [if_pos (by omega)] at hr9; exact hr9)))
    refine hv_loc [4, 5, 6, 7, 3, 2, 1, 0] [(0, .ref a0), (1, .int (iz ((s9 : Nat) : Int))), (2, .int (iz d)), (3, .int (iz t)), (4, .int (iz x1)), (5, .int (iz x2)), (6, .int (iz (-1))), (7, .int (iz 0))] rfl ?_
    exact L34 _ 0 (-1) (Nat.lt_succ_self _) (by omega) (by decide) rfl
  · skip
    refine hv_bipush C dX12_sendsOf_14 (by decide) ?_
    refine hv_iload C 4 0 dX12_sendsOf_16 rfl ?_
    refine hv_iadd C dX12_sendsOf_18 ?_
    exact mo_iret (Qc := fun _ _ _ _ => True) C hr hlk (by unfold sd; first | (rw [if_pos (by omega)]; omega) | (rw [if_neg (by omega), ← hr9]; first | (have e7 : (σ 1 4).toNat - h = ((σ 1 4).toNat - (h + 1)) + 1 := (by omega); rw [e7, sh]; subst_vars; rw [if_pos (by simp only [thb, Bool.and_eq_true, decide_eq_true_eq]; exact ⟨⟨by omega, by omega⟩, by assumption⟩), if_pos (by omega)]; done) | (have e8 : (σ 1 4).toNat - h = 0 := (by omega); rw [e8, sh]; first | (rw [if_pos (by omega)]; done) | (rw [if_neg (by omega)]; unfold own; rw [hz]; subst_vars; first | (rw [if_pos (by assumption)]; done) | (rw [if_neg (by assumption)]; done))))) rfl dX12_sendsOf_19
theorem dX12_sends_0 : decode cX12_sends 0 = .ok (.aload_n 0, 1) := by decide +kernel
theorem dX12_sends_1 : decode cX12_sends 1 = .ok (.iload_n 1, 1) := by decide +kernel
theorem dX12_sends_2 : decode cX12_sends 2 = .ok (.iconst 2, 1) := by decide +kernel
theorem dX12_sends_3 : decode cX12_sends 3 = .ok (.invokevirtual 63, 3) := by decide +kernel
theorem dX12_sends_6 : decode cX12_sends 6 = .ok (.ifCond .eq 27, 3) := by decide +kernel
theorem dX12_sends_9 : decode cX12_sends 9 = .ok (.iload_n 2, 1) := by decide +kernel
theorem dX12_sends_10 : decode cX12_sends 10 = .ok (.invokestatic 75, 3) := by decide +kernel
theorem dX12_sends_13 : decode cX12_sends 13 = .ok (.ifCond .eq 20, 3) := by decide +kernel
theorem dX12_sends_16 : decode cX12_sends 16 = .ok (.iload_n 3, 1) := by decide +kernel
theorem dX12_sends_17 : decode cX12_sends 17 = .ok (.invokestatic 81, 3) := by decide +kernel
theorem dX12_sends_20 : decode cX12_sends 20 = .ok (.ifCond .eq 13, 3) := by decide +kernel
theorem dX12_sends_23 : decode cX12_sends 23 = .ok (.aload_n 0, 1) := by decide +kernel
theorem dX12_sends_24 : decode cX12_sends 24 = .ok (.iload_n 1, 1) := by decide +kernel
theorem dX12_sends_25 : decode cX12_sends 25 = .ok (.iload_n 2, 1) := by decide +kernel
theorem dX12_sends_26 : decode cX12_sends 26 = .ok (.iload_n 3, 1) := by decide +kernel
theorem dX12_sends_27 : decode cX12_sends 27 = .ok (.invokevirtual 228, 3) := by decide +kernel
theorem dX12_sends_30 : decode cX12_sends 30 = .ok (.goto 4, 3) := by decide +kernel
theorem dX12_sends_33 : decode cX12_sends 33 = .ok (.iconst (-1), 1) := by decide +kernel
theorem dX12_sends_34 : decode cX12_sends 34 = .ok (.ireturn, 1) := by decide +kernel
set_option maxRecDepth 100000 in
set_option maxHeartbeats 4000000 in
theorem k_sends (l : Launch) {D : va_G} {cI cZ : ClassId} {a0 : Nat} (σ : Nat → Nat → Int) (st : Int) (d : Int) (t : Int) (hσ : rg σ) (hc : cn (σ 1)) (hs : si (σ 1)) (hh : hi (σ 1)) (hl : li (σ 1)) (r_st : inI st) (r_d : inI d) (r_t : inI t) : moM l D cI cZ a0 yX12_sends cX12_sends 4 (some .int) 8 202 [.ref a0, .int (iz st), .int (iz d), .int (iz t)] σ (some (.int (iz (if (0 ≤ st ∧ st ≤ σ 1 2 - 1) ∧ (0 ≤ d ∧ d ≤ 199) ∧ (0 ≤ t ∧ t ≤ 47) then sd (σ 1) st.toNat d t else -1)))) (σ) := by
  refine mo_start (by decide) rfl (Nat.le_of_ble_eq_true rfl) ?_
  intro p e s m args below meth c C K hr hlk
  refine hv_aload_n C 0 0 dX12_sends_0 rfl rfl ?_
  refine hv_iload_n C 1 1 dX12_sends_1 rfl rfl ?_
  refine hv_iconst C dX12_sends_2 ?_
  refine mo_call [.int (iz st), .int (iz 2)] [] C K (k_isOf l σ st 2 hσ (by omega) (by omega) (by omega)) ck_isOf (by decide) rfl (Nat.le_of_ble_eq_true rfl) dX12_sends_3 ?_
  refine hv_dif_eq C 33 dX12_sends_6 (by decide)  (fun h6 => ?_) (fun h6 => ?_)
  · skip
    refine hv_iconst C dX12_sends_33 ?_
    exact mo_iret (Qc := fun _ _ _ _ => True) C hr hlk (by first | exact if_n (by omega) rfl | (refine if_p (by omega) ?_; subst_vars; simp)) rfl dX12_sends_34
  · skip
    refine hv_iload_n C 2 2 dX12_sends_9 rfl rfl ?_
    refine mo_callS [.int (iz d)] [] C K (k_isDay l σ d (by omega)) ck_isDay (by decide) rfl (Nat.le_of_ble_eq_true rfl) dX12_sends_10 ?_
    refine hv_dif_eq C 33 dX12_sends_13 (by decide)  (fun h13 => ?_) (fun h13 => ?_)
    · skip
      refine hv_iconst C dX12_sends_33 ?_
      exact mo_iret (Qc := fun _ _ _ _ => True) C hr hlk (by first | exact if_n (by omega) rfl | (refine if_p (by omega) ?_; subst_vars; simp)) rfl dX12_sends_34
    · skip
      refine hv_iload_n C 3 3 dX12_sends_16 rfl rfl ?_
      refine mo_callS [.int (iz t)] [] C K (k_isSlot l σ t (by omega)) ck_isSlot (by decide) rfl (Nat.le_of_ble_eq_true rfl) dX12_sends_17 ?_
      refine hv_dif_eq C 33 dX12_sends_20 (by decide)  (fun h20 => ?_) (fun h20 => ?_)
      · skip
        refine hv_iconst C dX12_sends_33 ?_
        exact mo_iret (Qc := fun _ _ _ _ => True) C hr hlk (by first | exact if_n (by omega) rfl | (refine if_p (by omega) ?_; subst_vars; simp)) rfl dX12_sends_34
      · skip
        obtain ⟨sn, rfl⟩ : ∃ n : Nat, st = (n : Int) := ⟨(st).toNat, by omega⟩
        refine hv_aload_n C 0 0 dX12_sends_23 rfl rfl ?_
        refine hv_iload_n C 1 1 dX12_sends_24 rfl rfl ?_
        refine hv_iload_n C 2 2 dX12_sends_25 rfl rfl ?_
        refine hv_iload_n C 3 3 dX12_sends_26 rfl rfl ?_
        refine mo_call [.int (iz ((sn : Nat) : Int)), .int (iz d), .int (iz t)] [] C K (k_sendsOf l σ sn d t hσ (by omega) (by omega) (by omega) (by omega) (by omega) (by omega) (by omega)) ck_sendsOf (by decide) rfl (Nat.le_of_ble_eq_true rfl) dX12_sends_27 ?_
        refine hv_nm (fun x1 ex1 => ?_)
        refine hv_goto C 34 dX12_sends_30 (by decide) ?_
        exact mo_iret (Qc := fun _ _ _ _ => True) C hr hlk (by first | exact if_n (by omega) rfl | (refine if_p (by omega) ?_; subst_vars; simp)) rfl dX12_sends_34
theorem dX12_senders_0 : decode cX12_senders 0 = .ok (.iconst 0, 1) := by decide +kernel
theorem dX12_senders_1 : decode cX12_senders 1 = .ok (.istore 4, 2) := by decide +kernel
theorem dX12_senders_3 : decode cX12_senders 3 = .ok (.iconst 0, 1) := by decide +kernel
theorem dX12_senders_4 : decode cX12_senders 4 = .ok (.istore 5, 2) := by decide +kernel
theorem dX12_senders_6 : decode cX12_senders 6 = .ok (.iload 5, 2) := by decide +kernel
theorem dX12_senders_8 : decode cX12_senders 8 = .ok (.aload_n 0, 1) := by decide +kernel
theorem dX12_senders_9 : decode cX12_senders 9 = .ok (.getfield 7, 3) := by decide +kernel
theorem dX12_senders_12 : decode cX12_senders 12 = .ok (.iconst 2, 1) := by decide +kernel
theorem dX12_senders_13 : decode cX12_senders 13 = .ok (.iaload, 1) := by decide +kernel
theorem dX12_senders_14 : decode cX12_senders 14 = .ok (.if_icmp .ge 34, 3) := by decide +kernel
theorem dX12_senders_17 : decode cX12_senders 17 = .ok (.iload 4, 2) := by decide +kernel
theorem dX12_senders_19 : decode cX12_senders 19 = .ok (.aload_n 0, 1) := by decide +kernel
theorem dX12_senders_20 : decode cX12_senders 20 = .ok (.iload 5, 2) := by decide +kernel
theorem dX12_senders_22 : decode cX12_senders 22 = .ok (.iload_n 2, 1) := by decide +kernel
theorem dX12_senders_23 : decode cX12_senders 23 = .ok (.iload_n 3, 1) := by decide +kernel
theorem dX12_senders_24 : decode cX12_senders 24 = .ok (.invokevirtual 228, 3) := by decide +kernel
theorem dX12_senders_27 : decode cX12_senders 27 = .ok (.iload_n 1, 1) := by decide +kernel
theorem dX12_senders_28 : decode cX12_senders 28 = .ok (.if_icmp .ne 10, 3) := by decide +kernel
theorem dX12_senders_31 : decode cX12_senders 31 = .ok (.iconst 1, 1) := by decide +kernel
theorem dX12_senders_32 : decode cX12_senders 32 = .ok (.iload 5, 2) := by decide +kernel
theorem dX12_senders_34 : decode cX12_senders 34 = .ok (.ishl, 1) := by decide +kernel
theorem dX12_senders_35 : decode cX12_senders 35 = .ok (.goto 4, 3) := by decide +kernel
theorem dX12_senders_38 : decode cX12_senders 38 = .ok (.iconst 0, 1) := by decide +kernel
theorem dX12_senders_39 : decode cX12_senders 39 = .ok (.ior, 1) := by decide +kernel
theorem dX12_senders_40 : decode cX12_senders 40 = .ok (.istore 4, 2) := by decide +kernel
theorem dX12_senders_42 : decode cX12_senders 42 = .ok (.iinc 5 1, 3) := by decide +kernel
theorem dX12_senders_45 : decode cX12_senders 45 = .ok (.goto (-39), 3) := by decide +kernel
theorem dX12_senders_48 : decode cX12_senders 48 = .ok (.iload 4, 2) := by decide +kernel
theorem dX12_senders_50 : decode cX12_senders 50 = .ok (.ireturn, 1) := by decide +kernel
set_option maxRecDepth 100000 in
set_option maxHeartbeats 4000000 in
theorem k_senders (l : Launch) {D : va_G} {cI cZ : ClassId} {a0 : Nat} (σ : Nat → Nat → Int) (h : Int) (d : Int) (t : Int) (hσ : rg σ) (hc : cn (σ 1)) (hs : si (σ 1)) (hh : hi (σ 1)) (hl : li (σ 1)) (r_h : inI h) (hd : 0 ≤ d ∧ d ≤ 199) (ht : 0 ≤ t ∧ t ≤ 50) : moM l D cI cZ a0 yX12_senders cX12_senders 6 (some .int) 8 202 [.ref a0, .int (iz h), .int (iz d), .int (iz t)] σ (some (.int (iz ((se (σ 1) h d t (σ 1 2).toNat : Nat) : Int)))) (σ) := by
  refine mo_start (by decide) rfl (Nat.le_of_ble_eq_true rfl) ?_
  intro p e s m args below meth c C K hr hlk
  refine hv_iconst C dX12_senders_0 ?_
  refine hv_istore C 4 [(4, .int (iz 0)), (0, .ref a0), (1, .int (iz h)), (2, .int (iz d)), (3, .int (iz t))] dX12_senders_1 (by decide) rfl ?_
  refine hv_iconst C dX12_senders_3 ?_
  refine hv_istore C 5 [(5, .int (iz 0)), (4, .int (iz 0)), (0, .ref a0), (1, .int (iz h)), (2, .int (iz d)), (3, .int (iz t))] dX12_senders_4 (by decide) rfl ?_
  have L6 : ∀ (f : Nat) (s9 : Nat) (bits : Nat), (σ 1 2).toNat - s9 < f → (s9 : Int) ≤ σ 1 2 → bits = se (σ 1) h d t s9 → hvV p l e { frames := 8, cells := 0, slots := 0, locals := 202 } s m args below meth c 6 (moR a0) 0 0 (MQ below (moQ D cI cZ a0 (some (.int (iz ((se (σ 1) h d t (σ 1 2).toNat : Nat) : Int)))) (σ)) args s 0 0 (moR a0)) (moI D cI cZ a0 s.heap σ) 6 [(0, .ref a0), (1, .int (iz h)), (2, .int (iz d)), (3, .int (iz t)), (4, .int (iz ((bits : Nat) : Int))), (5, .int (iz ((s9 : Nat) : Int)))] [] := by
    intro f
    induction f with
    | zero => intro _ _ hm; exact absurd hm (Nat.not_lt_zero _)
    | succ f ih6 =>
      intro s9 bits hm6 hs0 hb
      refine hv_iload C 5 5 dX12_senders_6 rfl ?_
      refine hv_aload_n C 0 0 dX12_senders_8 rfl rfl ?_
      refine mo_geta C K 0 1 (by decide) rfl mo_hw fl_7 rfl dX12_senders_9 ?_
      refine hv_iconst C dX12_senders_12 ?_
      refine mo_iald C K 1 9040 2 rfl (by omega) (by omega) (by decide) dX12_senders_13 ?_
      refine hv_nm (fun x1 ex1 => ?_)
      have rx1 : inI x1 := by rw [ex1]; exact hσ 1 2
      refine hv_icmp_ge C 48 dX12_senders_14 (by decide) (by omega) (by omega) (fun h14 => ?_) (fun h14 => ?_)
      · skip
        refine hv_iload C 4 4 dX12_senders_48 rfl ?_
        exact mo_iret (Qc := fun _ _ _ _ => True) C hr hlk (by have hq : (σ 1 2).toNat = s9 := (by omega); rw [hq, hb]) rfl dX12_senders_50
      · skip
        refine hv_iload C 4 4 dX12_senders_17 rfl ?_
        refine hv_aload_n C 0 0 dX12_senders_19 rfl rfl ?_
        refine hv_iload C 5 5 dX12_senders_20 rfl ?_
        refine hv_iload_n C 2 2 dX12_senders_22 rfl rfl ?_
        refine hv_iload_n C 3 3 dX12_senders_23 rfl rfl ?_
        refine mo_call [.int (iz ((s9 : Nat) : Int)), .int (iz d), .int (iz t)] [.int (iz ((bits : Nat) : Int))] C K (k_sendsOf l σ s9 d t hσ (by omega) (by omega) (by omega) (by omega) (by omega) (by omega) (by omega)) ck_sendsOf (by decide) rfl (Nat.le_of_ble_eq_true rfl) dX12_senders_24 ?_
        refine hv_nm (fun x2 ex2 => ?_)
        have rx2 : inI x2 := by rw [ex2]; exact (by have h9 := sd_rng hc s9 d t; omega)
        refine hv_iload_n C 1 1 dX12_senders_27 rfl rfl ?_
        refine hv_icmp_ne C 38 dX12_senders_28 (by decide) (by omega) (by omega) (fun h28 => ?_) (fun h28 => ?_)
        · skip
          refine hv_iconst C dX12_senders_38 ?_
          refine hv_iorn C bits 0 rfl rfl dX12_senders_39 ?_
          refine hv_istore C 4 [(4, .int (iz ((bits ||| 0 : Nat) : Int))), (0, .ref a0), (1, .int (iz h)), (2, .int (iz d)), (3, .int (iz t)), (5, .int (iz ((s9 : Nat) : Int)))] dX12_senders_40 (by decide) rfl ?_
          refine hv_iinc C 5 5 [(5, .int (iz (((s9 : Nat) : Int) + 1))), (4, .int (iz ((bits ||| 0 : Nat) : Int))), (0, .ref a0), (1, .int (iz h)), (2, .int (iz d)), (3, .int (iz t))] dX12_senders_42 rfl (by decide) rfl ?_
          refine hv_goto C 6 dX12_senders_45 (by decide) ?_
          refine hv_loc [2, 3, 4, 5, 1, 0] [(0, .ref a0), (1, .int (iz h)), (2, .int (iz d)), (3, .int (iz t)), (4, .int (iz ((bits ||| 0 : Nat) : Int))), (5, .int (iz (((s9 : Nat) : Int) + 1)))] rfl ?_
          exact ih6 (s9 + 1) (bits ||| 0) (by omega) (by omega) (by simp only [se]; rw [← hb]; first | (rw [if_pos (by omega)]) | (rw [if_neg (by omega)]))
        · skip
          refine hv_iconst C dX12_senders_31 ?_
          refine hv_iload C 5 5 dX12_senders_32 rfl ?_
          refine hv_ishl1 C s9 (by omega) (by omega) dX12_senders_34 ?_
          refine hv_goto C 39 dX12_senders_35 (by decide) ?_
          refine hv_iorn C bits (2 ^ s9) rfl (by simp) dX12_senders_39 ?_
          refine hv_istore C 4 [(4, .int (iz ((bits ||| (2 ^ s9) : Nat) : Int))), (0, .ref a0), (1, .int (iz h)), (2, .int (iz d)), (3, .int (iz t)), (5, .int (iz ((s9 : Nat) : Int)))] dX12_senders_40 (by decide) rfl ?_
          refine hv_iinc C 5 5 [(5, .int (iz (((s9 : Nat) : Int) + 1))), (4, .int (iz ((bits ||| (2 ^ s9) : Nat) : Int))), (0, .ref a0), (1, .int (iz h)), (2, .int (iz d)), (3, .int (iz t))] dX12_senders_42 rfl (by decide) rfl ?_
          refine hv_goto C 6 dX12_senders_45 (by decide) ?_
          refine hv_loc [2, 3, 4, 5, 1, 0] [(0, .ref a0), (1, .int (iz h)), (2, .int (iz d)), (3, .int (iz t)), (4, .int (iz ((bits ||| (2 ^ s9) : Nat) : Int))), (5, .int (iz (((s9 : Nat) : Int) + 1)))] rfl ?_
          exact ih6 (s9 + 1) (bits ||| (2 ^ s9)) (by omega) (by omega) (by simp only [se]; rw [← hb]; first | (rw [if_pos (by omega)]) | (rw [if_neg (by omega)]))
  refine hv_loc [2, 3, 4, 5, 1, 0] [(0, .ref a0), (1, .int (iz h)), (2, .int (iz d)), (3, .int (iz t)), (4, .int (iz 0)), (5, .int (iz 0))] rfl ?_
  exact L6 _ 0 0 (Nat.lt_succ_self _) (by omega) rfl
theorem dX12_sent_0 : decode cX12_sent 0 = .ok (.aload_n 0, 1) := by decide +kernel
theorem dX12_sent_1 : decode cX12_sent 1 = .ok (.iload_n 1, 1) := by decide +kernel
theorem dX12_sent_2 : decode cX12_sent 2 = .ok (.iload_n 2, 1) := by decide +kernel
theorem dX12_sent_3 : decode cX12_sent 3 = .ok (.invokevirtual 231, 3) := by decide +kernel
theorem dX12_sent_6 : decode cX12_sent 6 = .ok (.ifCond .eq 25, 3) := by decide +kernel
theorem dX12_sent_9 : decode cX12_sent 9 = .ok (.aload_n 0, 1) := by decide +kernel
theorem dX12_sent_10 : decode cX12_sent 10 = .ok (.iload_n 1, 1) := by decide +kernel
theorem dX12_sent_11 : decode cX12_sent 11 = .ok (.aload_n 0, 1) := by decide +kernel
theorem dX12_sent_12 : decode cX12_sent 12 = .ok (.iload_n 1, 1) := by decide +kernel
theorem dX12_sent_13 : decode cX12_sent 13 = .ok (.iconst 1, 1) := by decide +kernel
theorem dX12_sent_14 : decode cX12_sent 14 = .ok (.invokevirtual 67, 3) := by decide +kernel
theorem dX12_sent_17 : decode cX12_sent 17 = .ok (.aload_n 0, 1) := by decide +kernel
theorem dX12_sent_18 : decode cX12_sent 18 = .ok (.iload_n 1, 1) := by decide +kernel
theorem dX12_sent_19 : decode cX12_sent 19 = .ok (.iconst 2, 1) := by decide +kernel
theorem dX12_sent_20 : decode cX12_sent 20 = .ok (.invokevirtual 67, 3) := by decide +kernel
theorem dX12_sent_23 : decode cX12_sent 23 = .ok (.iload_n 2, 1) := by decide +kernel
theorem dX12_sent_24 : decode cX12_sent 24 = .ok (.iadd, 1) := by decide +kernel
theorem dX12_sent_25 : decode cX12_sent 25 = .ok (.invokevirtual 234, 3) := by decide +kernel
theorem dX12_sent_28 : decode cX12_sent 28 = .ok (.goto 4, 3) := by decide +kernel
theorem dX12_sent_31 : decode cX12_sent 31 = .ok (.iconst (-1), 1) := by decide +kernel
theorem dX12_sent_32 : decode cX12_sent 32 = .ok (.ireturn, 1) := by decide +kernel
set_option maxRecDepth 100000 in
set_option maxHeartbeats 4000000 in
theorem k_sent (l : Launch) {D : va_G} {cI cZ : ClassId} {a0 : Nat} (σ : Nat → Nat → Int) (h : Int) (i : Int) (hσ : rg σ) (hc : cn (σ 1)) (hs : si (σ 1)) (hh : hi (σ 1)) (hl : li (σ 1)) (r_h : inI h) (r_i : inI i) : moM l D cI cZ a0 yX12_sent cX12_sent 3 (some .int) 9 227 [.ref a0, .int (iz h), .int (iz i)] σ (some (.int (iz (if ((0 ≤ h ∧ h ≤ σ 1 4 - 1) ∧ (σ 1 9 = -1 ∨ σ 1 ((280 + (8 * h.toNat)) + 7) ≤ σ 1 9)) ∧ (0 ≤ i ∧ i ≤ σ 1 ((280 + (8 * h.toNat)) + 3) - 1) then ((se (σ 1) h (σ 1 (280 + 8 * h.toNat + 1)) (σ 1 (280 + 8 * h.toNat + 2) + i) (σ 1 2).toNat : Nat) : Int) else -1)))) (σ) := by
  refine mo_start (by decide) rfl (Nat.le_of_ble_eq_true rfl) ?_
  intro p e s m args below meth c C K hr hlk
  refine hv_aload_n C 0 0 dX12_sent_0 rfl rfl ?_
  refine hv_iload_n C 1 1 dX12_sent_1 rfl rfl ?_
  refine hv_iload_n C 2 2 dX12_sent_2 rfl rfl ?_
  refine mo_call [.int (iz h), .int (iz i)] [] C K (k_isPart l σ h i hσ (by omega) (by omega) (by omega) (by omega)) ck_isPart (by decide) rfl (Nat.le_of_ble_eq_true rfl) dX12_sent_3 ?_
  refine hv_dif_eq C 31 dX12_sent_6 (by decide)  (fun h6 => ?_) (fun h6 => ?_)
  · skip
    refine hv_iconst C dX12_sent_31 ?_
    exact mo_iret (Qc := fun _ _ _ _ => True) C hr hlk (by (try simp only [Int.toNat_natCast] at *); first | exact if_n (by omega) rfl | (refine if_p (by omega) ?_; subst_vars; simp)) rfl dX12_sent_32
  · skip
    obtain ⟨hn, rfl⟩ : ∃ n : Nat, h = (n : Int) := ⟨(h).toNat, by omega⟩
    have hhn := hh hn (by omega)
    (try simp only [Int.toNat_natCast] at *)
    refine hv_aload_n C 0 0 dX12_sent_9 rfl rfl ?_
    refine hv_iload_n C 1 1 dX12_sent_10 rfl rfl ?_
    refine hv_aload_n C 0 0 dX12_sent_11 rfl rfl ?_
    refine hv_iload_n C 1 1 dX12_sent_12 rfl rfl ?_
    refine hv_iconst C dX12_sent_13 ?_
    refine mo_call [.int (iz ((hn : Nat) : Int)), .int (iz 1)] [.int (iz ((hn : Nat) : Int)), .ref a0] C K (k_hourOf l σ hn 1 (by omega) (by omega)) ck_hourOf (by decide) rfl (Nat.le_of_ble_eq_true rfl) dX12_sent_14 ?_
    refine hv_nm (fun x1 ex1 => ?_)
    have rx1 : inI x1 := by rw [ex1]; exact hσ _ _
    refine hv_aload_n C 0 0 dX12_sent_17 rfl rfl ?_
    refine hv_iload_n C 1 1 dX12_sent_18 rfl rfl ?_
    refine hv_iconst C dX12_sent_19 ?_
    refine mo_call [.int (iz ((hn : Nat) : Int)), .int (iz 2)] [.int (iz x1), .int (iz ((hn : Nat) : Int)), .ref a0] C K (k_hourOf l σ hn 2 (by omega) (by omega)) ck_hourOf (by decide) rfl (Nat.le_of_ble_eq_true rfl) dX12_sent_20 ?_
    refine hv_nm (fun x2 ex2 => ?_)
    have rx2 : inI x2 := by rw [ex2]; exact hσ _ _
    refine hv_iload_n C 2 2 dX12_sent_23 rfl rfl ?_
    refine hv_iadd C dX12_sent_24 ?_
    refine mo_call [.int (iz ((hn : Nat) : Int)), .int (iz x1), .int (iz (x2 + i))] [] C K (k_senders l σ ((hn : Nat) : Int) x1 (x2 + i) hσ (by omega) (by omega) (by omega) (by omega) (by omega) (by omega) (by omega)) ck_senders (by decide) rfl (Nat.le_of_ble_eq_true rfl) dX12_sent_25 ?_
    refine hv_goto C 32 dX12_sent_28 (by decide) ?_
    exact mo_iret (Qc := fun _ _ _ _ => True) C hr hlk (by (try simp only [Int.toNat_natCast] at *); first | exact if_n (by omega) rfl | (refine if_p (by omega) ?_; subst_vars; simp)) rfl dX12_sent_32
