def ri (O : Nat → Int) : Nat → Int → Int
  | 0, i => i
  | f + 1, i => if 0 ≤ i ∧ O (i + 1).toNat < O i.toNat then ri O f (i + -1) else i
def rj (O : Nat → Int) (x : Int) : Nat → Int → Int
  | 0, j => j
  | f + 1, j => if O j.toNat < x then rj O x f (j + -1) else j
def sw (O : Nat → Int) (a b : Nat) : Nat → Int := ua (ua O a (O b)) b (O a)
def rv : Nat → Int → Int → (Nat → Int) → (Nat → Int)
  | 0, _, _, O => O
  | f + 1, a, b, O => if a < b then rv f (a + 1) (b + -1) (sw O a.toNat b.toNat) else O
theorem rv_x {a b : Int} (h : ¬ a < b) (O : Nat → Int) : ∀ f, rv f a b O = O
  | 0 => rfl
  | f + 1 => by unfold rv; rw [if_neg h]
def ro1 (O : Nat → Int) (n : Nat) : Int := ri O ((n : Int) - 1).toNat ((n : Int) - 2)
def ro2 (O : Nat → Int) (n i : Nat) : Int := rj O (O i) ((n : Int) - 1).toNat ((n : Int) - 1)
def ro3 (O : Nat → Int) (n : Nat) : Nat → Int := rv ((n : Int) - 1).toNat (ro1 O n + 1) ((n : Int) - 1) (sw O (ro1 O n).toNat (ro2 O n (ro1 O n).toNat).toNat)

theorem dX12_reorders_0 : decode cX12_reorders 0 = .ok (.iload_n 1, 1) := by decide +kernel
theorem dX12_reorders_1 : decode cX12_reorders 1 = .ok (.iconst 2, 1) := by decide +kernel
theorem dX12_reorders_2 : decode cX12_reorders 2 = .ok (.isub, 1) := by decide +kernel
theorem dX12_reorders_3 : decode cX12_reorders 3 = .ok (.istore_n 2, 1) := by decide +kernel
theorem dX12_reorders_4 : decode cX12_reorders 4 = .ok (.iload_n 2, 1) := by decide +kernel
theorem dX12_reorders_5 : decode cX12_reorders 5 = .ok (.ifCond .lt 26, 3) := by decide +kernel
theorem dX12_reorders_8 : decode cX12_reorders 8 = .ok (.aload_n 0, 1) := by decide +kernel
theorem dX12_reorders_9 : decode cX12_reorders 9 = .ok (.getfield 41, 3) := by decide +kernel
theorem dX12_reorders_12 : decode cX12_reorders 12 = .ok (.iload_n 2, 1) := by decide +kernel
theorem dX12_reorders_13 : decode cX12_reorders 13 = .ok (.iaload, 1) := by decide +kernel
theorem dX12_reorders_14 : decode cX12_reorders 14 = .ok (.aload_n 0, 1) := by decide +kernel
theorem dX12_reorders_15 : decode cX12_reorders 15 = .ok (.getfield 41, 3) := by decide +kernel
theorem dX12_reorders_18 : decode cX12_reorders 18 = .ok (.iload_n 2, 1) := by decide +kernel
theorem dX12_reorders_19 : decode cX12_reorders 19 = .ok (.iconst 1, 1) := by decide +kernel
theorem dX12_reorders_20 : decode cX12_reorders 20 = .ok (.iadd, 1) := by decide +kernel
theorem dX12_reorders_21 : decode cX12_reorders 21 = .ok (.iaload, 1) := by decide +kernel
theorem dX12_reorders_22 : decode cX12_reorders 22 = .ok (.if_icmp .le 9, 3) := by decide +kernel
theorem dX12_reorders_25 : decode cX12_reorders 25 = .ok (.iinc 2 (-1), 3) := by decide +kernel
theorem dX12_reorders_28 : decode cX12_reorders 28 = .ok (.goto (-24), 3) := by decide +kernel
theorem dX12_reorders_31 : decode cX12_reorders 31 = .ok (.iload_n 2, 1) := by decide +kernel
theorem dX12_reorders_32 : decode cX12_reorders 32 = .ok (.ifCond .ge 5, 3) := by decide +kernel
theorem dX12_reorders_35 : decode cX12_reorders 35 = .ok (.iconst 0, 1) := by decide +kernel
theorem dX12_reorders_36 : decode cX12_reorders 36 = .ok (.ireturn, 1) := by decide +kernel
theorem dX12_reorders_37 : decode cX12_reorders 37 = .ok (.iload_n 1, 1) := by decide +kernel
theorem dX12_reorders_38 : decode cX12_reorders 38 = .ok (.iconst 1, 1) := by decide +kernel
theorem dX12_reorders_39 : decode cX12_reorders 39 = .ok (.isub, 1) := by decide +kernel
theorem dX12_reorders_40 : decode cX12_reorders 40 = .ok (.istore_n 3, 1) := by decide +kernel
theorem dX12_reorders_41 : decode cX12_reorders 41 = .ok (.aload_n 0, 1) := by decide +kernel
theorem dX12_reorders_42 : decode cX12_reorders 42 = .ok (.getfield 41, 3) := by decide +kernel
theorem dX12_reorders_45 : decode cX12_reorders 45 = .ok (.iload_n 3, 1) := by decide +kernel
theorem dX12_reorders_46 : decode cX12_reorders 46 = .ok (.iaload, 1) := by decide +kernel
theorem dX12_reorders_47 : decode cX12_reorders 47 = .ok (.aload_n 0, 1) := by decide +kernel
theorem dX12_reorders_48 : decode cX12_reorders 48 = .ok (.getfield 41, 3) := by decide +kernel
theorem dX12_reorders_51 : decode cX12_reorders 51 = .ok (.iload_n 2, 1) := by decide +kernel
theorem dX12_reorders_52 : decode cX12_reorders 52 = .ok (.iaload, 1) := by decide +kernel
theorem dX12_reorders_53 : decode cX12_reorders 53 = .ok (.if_icmp .ge 9, 3) := by decide +kernel
theorem dX12_reorders_56 : decode cX12_reorders 56 = .ok (.iinc 3 (-1), 3) := by decide +kernel
theorem dX12_reorders_59 : decode cX12_reorders 59 = .ok (.goto (-18), 3) := by decide +kernel
theorem dX12_reorders_62 : decode cX12_reorders 62 = .ok (.aload_n 0, 1) := by decide +kernel
theorem dX12_reorders_63 : decode cX12_reorders 63 = .ok (.iload_n 2, 1) := by decide +kernel
theorem dX12_reorders_64 : decode cX12_reorders 64 = .ok (.iload_n 3, 1) := by decide +kernel
theorem dX12_reorders_65 : decode cX12_reorders 65 = .ok (.invokevirtual 268, 3) := by decide +kernel
theorem dX12_reorders_68 : decode cX12_reorders 68 = .ok (.iload_n 2, 1) := by decide +kernel
theorem dX12_reorders_69 : decode cX12_reorders 69 = .ok (.iconst 1, 1) := by decide +kernel
theorem dX12_reorders_70 : decode cX12_reorders 70 = .ok (.iadd, 1) := by decide +kernel
theorem dX12_reorders_71 : decode cX12_reorders 71 = .ok (.istore 4, 2) := by decide +kernel
theorem dX12_reorders_73 : decode cX12_reorders 73 = .ok (.iload_n 1, 1) := by decide +kernel
theorem dX12_reorders_74 : decode cX12_reorders 74 = .ok (.iconst 1, 1) := by decide +kernel
theorem dX12_reorders_75 : decode cX12_reorders 75 = .ok (.isub, 1) := by decide +kernel
theorem dX12_reorders_76 : decode cX12_reorders 76 = .ok (.istore 5, 2) := by decide +kernel
theorem dX12_reorders_78 : decode cX12_reorders 78 = .ok (.iload 4, 2) := by decide +kernel
theorem dX12_reorders_80 : decode cX12_reorders 80 = .ok (.iload 5, 2) := by decide +kernel
theorem dX12_reorders_82 : decode cX12_reorders 82 = .ok (.if_icmp .ge 20, 3) := by decide +kernel
theorem dX12_reorders_85 : decode cX12_reorders 85 = .ok (.aload_n 0, 1) := by decide +kernel
theorem dX12_reorders_86 : decode cX12_reorders 86 = .ok (.iload 4, 2) := by decide +kernel
theorem dX12_reorders_88 : decode cX12_reorders 88 = .ok (.iload 5, 2) := by decide +kernel
theorem dX12_reorders_90 : decode cX12_reorders 90 = .ok (.invokevirtual 268, 3) := by decide +kernel
theorem dX12_reorders_93 : decode cX12_reorders 93 = .ok (.iinc 4 1, 3) := by decide +kernel
theorem dX12_reorders_96 : decode cX12_reorders 96 = .ok (.iinc 5 (-1), 3) := by decide +kernel
theorem dX12_reorders_99 : decode cX12_reorders 99 = .ok (.goto (-21), 3) := by decide +kernel
theorem dX12_reorders_102 : decode cX12_reorders 102 = .ok (.iconst 1, 1) := by decide +kernel
theorem dX12_reorders_103 : decode cX12_reorders 103 = .ok (.ireturn, 1) := by decide +kernel
set_option maxRecDepth 100000 in
set_option maxHeartbeats 4000000 in
theorem k_reorders (l : Launch) {D : va_G} {cI cZ : ClassId} {a0 : Nat} (σ : Nat → Nat → Int) (n : Nat) (hσ : rg σ) (hn : n ≤ 7) : moM l D cI cZ a0 yX12_reorders cX12_reorders 6 (some .boolean) 1 23 [.ref a0, .int (iz ((n : Nat) : Int))] σ (some (.int (iz (xb (decide (0 ≤ ro1 (σ 11) n)))))) (if 0 ≤ ro1 (σ 11) n then sA σ 11 (ro3 (σ 11) n) else σ) := by
  refine mo_start (by decide) rfl (Nat.le_of_ble_eq_true rfl) ?_
  intro p e s m args below meth c C K hr hlk
  refine hv_iload_n C 1 1 dX12_reorders_0 rfl rfl ?_
  refine hv_iconst C dX12_reorders_1 ?_
  refine hv_isub C dX12_reorders_2 ?_
  refine hv_istore_n C 2 [(2, .int (iz (((n : Nat) : Int) - 2))), (0, .ref a0), (1, .int (iz ((n : Nat) : Int)))] dX12_reorders_3 rfl (by decide) rfl ?_
  have L4 : ∀ (f : Nat) (i : Int), (i + 3).toNat < f → (-1 ≤ i ∨ i = ((n : Nat) : Int) - 2) → (i ≤ ((n : Nat) : Int) - 2 ∧ -2 ≤ i) → (ri (σ 11) (i + 1).toNat i = ri (σ 11) (((n : Nat) : Int) - 1).toNat (((n : Nat) : Int) - 2)) → hvV p l e { frames := 1, cells := 0, slots := 0, locals := 23 } s m args below meth c 6 (moR a0) 0 0 (MQ below (moQ D cI cZ a0 (some (.int (iz (xb (decide (0 ≤ ro1 (σ 11) n)))))) (if 0 ≤ ro1 (σ 11) n then sA σ 11 (ro3 (σ 11) n) else σ)) args s 0 0 (moR a0)) (moI D cI cZ a0 s.heap σ) 4 [(0, .ref a0), (1, .int (iz ((n : Nat) : Int))), (2, .int (iz i))] [] := by
    intro f
    induction f with
    | zero => intro _ hm; exact absurd hm (Nat.not_lt_zero _)
    | succ f ih4 =>
      intro i hm4 hi0 hi1 hr9
      refine hv_iload_n C 2 2 dX12_reorders_4 rfl rfl ?_
      refine hv_if_lt C 31 dX12_reorders_5 (by decide) (by omega) (fun h5 => ?_) (fun h5 => ?_)
      · skip
        have zi : ro1 (σ 11) n = i := by unfold ro1; rw [← hr9]; first | (rw [show (i + 1).toNat = 0 by omega]; rfl) | (rw [show (i + 1).toNat = i.toNat + 1 by omega, ri, if_neg (by omega)])
        refine hv_iload_n C 2 2 dX12_reorders_31 rfl rfl ?_
        refine hv_if_ge C 37 dX12_reorders_32 (by decide) (by omega) (fun h32 => ?_) (fun h32 => ?_)
        · skip
          refine hv_iload_n C 1 1 dX12_reorders_37 rfl rfl ?_
          refine hv_iconst C dX12_reorders_38 ?_
          refine hv_isub C dX12_reorders_39 ?_
          refine hv_istore_n C 3 [(3, .int (iz (((n : Nat) : Int) - 1))), (0, .ref a0), (1, .int (iz ((n : Nat) : Int))), (2, .int (iz i))] dX12_reorders_40 rfl (by decide) rfl ?_
          have L41 : ∀ (f : Nat) (j : Int), (j + 3).toNat < f → (i + 1 ≤ j ∧ j ≤ ((n : Nat) : Int) - 1) → (rj (σ 11) (σ 11 i.toNat) j.toNat j = rj (σ 11) (σ 11 i.toNat) (((n : Nat) : Int) - 1).toNat (((n : Nat) : Int) - 1)) → hvV p l e { frames := 1, cells := 0, slots := 0, locals := 23 } s m args below meth c 6 (moR a0) 0 0 (MQ below (moQ D cI cZ a0 (some (.int (iz (xb (decide (0 ≤ ro1 (σ 11) n)))))) (if 0 ≤ ro1 (σ 11) n then sA σ 11 (ro3 (σ 11) n) else σ)) args s 0 0 (moR a0)) (moI D cI cZ a0 s.heap σ) 41 [(0, .ref a0), (1, .int (iz ((n : Nat) : Int))), (2, .int (iz i)), (3, .int (iz j))] [] := by
            intro f
            induction f with
            | zero => intro _ hm; exact absurd hm (Nat.not_lt_zero _)
            | succ f ih41 =>
              intro j hm41 hj0 hr8
              refine hv_aload_n C 0 0 dX12_reorders_41 rfl rfl ?_
              refine mo_geta C K 21 11 (by decide) rfl mo_hw fl_41 rfl dX12_reorders_42 ?_
              refine hv_iload_n C 3 3 dX12_reorders_45 rfl rfl ?_
              refine mo_iald C K 11 7 ((j : Int)).toNat rfl (by omega) (by omega) (by decide) dX12_reorders_46 ?_
              refine hv_as (σ 11 ((j : Int)).toNat) rfl ?_
              refine hv_nm (fun x1 ex1 => ?_)
              have rx1 : inI x1 := by rw [ex1]; exact hσ 11 ((j : Int)).toNat
              refine hv_aload_n C 0 0 dX12_reorders_47 rfl rfl ?_
              refine mo_geta C K 21 11 (by decide) rfl mo_hw fl_41 rfl dX12_reorders_48 ?_
              refine hv_iload_n C 2 2 dX12_reorders_51 rfl rfl ?_
              refine mo_iald C K 11 7 ((i : Int)).toNat rfl (by omega) (by omega) (by decide) dX12_reorders_52 ?_
              refine hv_as (σ 11 ((i : Int)).toNat) rfl ?_
              refine hv_nm (fun x2 ex2 => ?_)
              have rx2 : inI x2 := by rw [ex2]; exact hσ 11 ((i : Int)).toNat
              refine hv_icmp_ge C 62 dX12_reorders_53 (by decide) (by omega) (by omega) (fun h53 => ?_) (fun h53 => ?_)
              · skip
                have zj : rj (σ 11) (σ 11 i.toNat) (((n : Nat) : Int) - 1).toNat (((n : Nat) : Int) - 1) = j := by rw [← hr8, show j.toNat = (j - 1).toNat + 1 by omega, rj, if_neg (by omega)]
                obtain ⟨iN, rfl⟩ : ∃ n : Nat, i = (n : Int) := ⟨(i).toNat, by omega⟩
                obtain ⟨jN, rfl⟩ : ∃ n : Nat, j = (n : Int) := ⟨(j).toNat, by omega⟩
                refine hv_aload_n C 0 0 dX12_reorders_62 rfl rfl ?_
                refine hv_iload_n C 2 2 dX12_reorders_63 rfl rfl ?_
                refine hv_iload_n C 3 3 dX12_reorders_64 rfl rfl ?_
                refine mo_call [.int (iz ((iN : Nat) : Int)), .int (iz ((jN : Nat) : Int))] [] C K (k_swap l σ iN jN hσ (by omega) (by omega)) ck_swap (by decide) rfl (Nat.le_of_ble_eq_true rfl) dX12_reorders_65 ?_
                refine mo_st (σ2 := sA σ 11 (ua (ua (σ 11) iN ((σ 11) jN)) jN ((σ 11) iN))) (by first | rfl | (simp only [u2_sA, sA_sA, sA_at]; done) | (rw [u2_sA, u2_sA, sA_sA]; rfl) | (rw [u2_sA, u2_sA, sA_sA, sA_sA]; rfl)) ?_
                refine hv_iload_n C 2 2 dX12_reorders_68 rfl rfl ?_
                refine hv_iconst C dX12_reorders_69 ?_
                refine hv_iadd C dX12_reorders_70 ?_
                refine hv_istore C 4 [(4, .int (iz (((iN : Nat) : Int) + 1))), (0, .ref a0), (1, .int (iz ((n : Nat) : Int))), (2, .int (iz ((iN : Nat) : Int))), (3, .int (iz ((jN : Nat) : Int)))] dX12_reorders_71 (by decide) rfl ?_
                refine hv_iload_n C 1 2 dX12_reorders_73 rfl rfl ?_
                refine hv_iconst C dX12_reorders_74 ?_
                refine hv_isub C dX12_reorders_75 ?_
                refine hv_istore C 5 [(5, .int (iz (((n : Nat) : Int) - 1))), (4, .int (iz (((iN : Nat) : Int) + 1))), (0, .ref a0), (1, .int (iz ((n : Nat) : Int))), (2, .int (iz ((iN : Nat) : Int))), (3, .int (iz ((jN : Nat) : Int)))] dX12_reorders_76 (by decide) rfl ?_
                have L78 : ∀ (f : Nat) (a : Int) (b : Int) (O2 : Nat → Int), (b + 200).toNat < f → (1 ≤ a ∧ a ≤ 100 ∧ b ≤ ((n : Nat) : Int) - 1 ∧ -100 ≤ b ∧ b ≤ 100 - a) → (∀ q, inI (O2 q)) → (rv b.toNat a b O2 = rv (((n : Nat) : Int) - 1).toNat (((iN : Nat) : Int) + 1) (((n : Nat) : Int) - 1) (sw (σ 11) iN jN)) → hvV p l e { frames := 1, cells := 0, slots := 0, locals := 23 } s m args below meth c 6 (moR a0) 0 0 (MQ below (moQ D cI cZ a0 (some (.int (iz (xb (decide (0 ≤ ro1 (σ 11) n)))))) (if 0 ≤ ro1 (σ 11) n then sA σ 11 (ro3 (σ 11) n) else σ)) args s 0 0 (moR a0)) (moI D cI cZ a0 s.heap (sA σ 11 O2)) 78 [(0, .ref a0), (1, .int (iz ((n : Nat) : Int))), (2, .int (iz ((iN : Nat) : Int))), (3, .int (iz ((jN : Nat) : Int))), (4, .int (iz a)), (5, .int (iz b))] [] := by
                  intro f
                  induction f with
                  | zero => intro _ _ _ hm; exact absurd hm (Nat.not_lt_zero _)
                  | succ f ih78 =>
                    intro a b O2 hm78 ha hO hr7
                    refine hv_iload C 4 4 dX12_reorders_78 rfl ?_
                    refine hv_iload C 5 5 dX12_reorders_80 rfl ?_
                    refine hv_icmp_ge C 102 dX12_reorders_82 (by decide) (by omega) (by omega) (fun h82 => ?_) (fun h82 => ?_)
                    · skip
                      have z7 := hr7
                      rw [rv_x (by omega)] at z7
                      refine hv_iconst C dX12_reorders_102 ?_
                      exact mo_zret (Qc := fun _ _ _ _ => True) C hr hlk ((xb_t (decide_eq_true (by omega))).symm) (by first | exact if_n (by omega) rfl | (refine if_p (by omega) ?_; unfold ro3 ro2; rw [zi]; simp only [Int.toNat_natCast] at zj ⊢; rw [zj]; exact congrArg (sA σ 11) z7)) dX12_reorders_103
                    · skip
                      obtain ⟨aN, rfl⟩ : ∃ n : Nat, a = (n : Int) := ⟨(a).toNat, by omega⟩
                      obtain ⟨bN, rfl⟩ : ∃ n : Nat, b = (n : Int) := ⟨(b).toNat, by omega⟩
                      refine hv_aload_n C 0 0 dX12_reorders_85 rfl rfl ?_
                      refine hv_iload C 4 4 dX12_reorders_86 rfl ?_
                      refine hv_iload C 5 5 dX12_reorders_88 rfl ?_
                      refine mo_call [.int (iz ((aN : Nat) : Int)), .int (iz ((bN : Nat) : Int))] [] C K (k_swap l (sA σ 11 O2) aN bN (by repeat (first | assumption | refine rg_sA ?_ ?_ | refine in_ua ?_ (by omega) | exact fun _ => hσ _ _)) (by omega) (by omega)) ck_swap (by decide) rfl (Nat.le_of_ble_eq_true rfl) dX12_reorders_90 ?_
                      refine mo_st (σ2 := sA σ 11 (ua (ua O2 aN (O2 bN)) bN (O2 aN))) (by first | rfl | (simp only [u2_sA, sA_sA, sA_at]; done) | (rw [u2_sA, u2_sA, sA_sA]; rfl) | (rw [u2_sA, u2_sA, sA_sA, sA_sA]; rfl)) ?_
                      refine hv_iinc C 4 4 [(4, .int (iz (((aN : Nat) : Int) + 1))), (0, .ref a0), (1, .int (iz ((n : Nat) : Int))), (2, .int (iz ((iN : Nat) : Int))), (3, .int (iz ((jN : Nat) : Int))), (5, .int (iz ((bN : Nat) : Int)))] dX12_reorders_93 rfl (by decide) rfl ?_
                      refine hv_iinc C 5 5 [(5, .int (iz (((bN : Nat) : Int) + (-1)))), (4, .int (iz (((aN : Nat) : Int) + 1))), (0, .ref a0), (1, .int (iz ((n : Nat) : Int))), (2, .int (iz ((iN : Nat) : Int))), (3, .int (iz ((jN : Nat) : Int)))] dX12_reorders_96 rfl (by decide) rfl ?_
                      refine hv_goto C 78 dX12_reorders_99 (by decide) ?_
                      refine hv_loc [2, 3, 4, 5, 1, 0] [(0, .ref a0), (1, .int (iz ((n : Nat) : Int))), (2, .int (iz ((iN : Nat) : Int))), (3, .int (iz ((jN : Nat) : Int))), (4, .int (iz (((aN : Nat) : Int) + 1))), (5, .int (iz (((bN : Nat) : Int) + (-1))))] rfl ?_
                      exact ih78 (((aN : Nat) : Int) + 1) (((bN : Nat) : Int) + (-1)) (ua (ua O2 aN (O2 bN)) bN (O2 aN)) (by omega) (by omega) (in_ua (in_ua hO (hO _)) (hO _)) (by rw [← hr7, show (((bN : Nat) : Int)).toNat = (((bN : Nat) : Int) + -1).toNat + 1 by omega, rv, if_pos (by omega)]; rfl)
                refine hv_loc [2, 3, 4, 5, 1, 0] [(0, .ref a0), (1, .int (iz ((n : Nat) : Int))), (2, .int (iz ((iN : Nat) : Int))), (3, .int (iz ((jN : Nat) : Int))), (4, .int (iz (((iN : Nat) : Int) + 1))), (5, .int (iz (((n : Nat) : Int) - 1)))] rfl ?_
                exact L78 _ (((iN : Nat) : Int) + 1) (((n : Nat) : Int) - 1) (ua (ua (σ 11) iN ((σ 11) jN)) jN ((σ 11) iN)) (Nat.lt_succ_self _) (by omega) (in_ua (in_ua (fun _ => hσ _ _) (hσ _ _)) (hσ _ _)) rfl
              · skip
                refine hv_iinc C 3 3 [(3, .int (iz (j + (-1)))), (0, .ref a0), (1, .int (iz ((n : Nat) : Int))), (2, .int (iz i))] dX12_reorders_56 rfl (by decide) rfl ?_
                refine hv_goto C 41 dX12_reorders_59 (by decide) ?_
                refine hv_loc [1, 2, 3, 0] [(0, .ref a0), (1, .int (iz ((n : Nat) : Int))), (2, .int (iz i)), (3, .int (iz (j + (-1))))] rfl ?_
                exact ih41 (j + (-1)) (by omega) (by have zz : j ≠ i + 1 := (fun e9 => by subst e9; omega); omega) (by rw [← hr8, show j.toNat = (j + -1).toNat + 1 by omega, rj, if_pos (by omega)])
          refine hv_loc [1, 2, 3, 0] [(0, .ref a0), (1, .int (iz ((n : Nat) : Int))), (2, .int (iz i)), (3, .int (iz (((n : Nat) : Int) - 1)))] rfl ?_
          exact L41 _ (((n : Nat) : Int) - 1) (Nat.lt_succ_self _) (by omega) rfl
        · skip
          refine hv_iconst C dX12_reorders_35 ?_
          exact mo_zret (Qc := fun _ _ _ _ => True) C hr hlk ((xb_f (decide_eq_false (by omega))).symm) (by first | exact if_n (by omega) rfl | (refine if_p (by omega) ?_; unfold ro3 ro2; rw [zi]; simp only [Int.toNat_natCast] at zj ⊢; rw [zj]; exact congrArg (sA σ 11) z7)) dX12_reorders_36
      · skip
        refine hv_aload_n C 0 0 dX12_reorders_8 rfl rfl ?_
        refine mo_geta C K 21 11 (by decide) rfl mo_hw fl_41 rfl dX12_reorders_9 ?_
        refine hv_iload_n C 2 2 dX12_reorders_12 rfl rfl ?_
        refine mo_iald C K 11 7 ((i : Int)).toNat rfl (by omega) (by omega) (by decide) dX12_reorders_13 ?_
        refine hv_as (σ 11 ((i : Int)).toNat) rfl ?_
        refine hv_nm (fun x3 ex3 => ?_)
        have rx3 : inI x3 := by rw [ex3]; exact hσ 11 ((i : Int)).toNat
        refine hv_aload_n C 0 0 dX12_reorders_14 rfl rfl ?_
        refine mo_geta C K 21 11 (by decide) rfl mo_hw fl_41 rfl dX12_reorders_15 ?_
        refine hv_iload_n C 2 2 dX12_reorders_18 rfl rfl ?_
        refine hv_iconst C dX12_reorders_19 ?_
        refine hv_iadd C dX12_reorders_20 ?_
        refine mo_iald C K 11 7 (((i + 1) : Int)).toNat rfl (by omega) (by omega) (by decide) dX12_reorders_21 ?_
        refine hv_as (σ 11 (((i + 1) : Int)).toNat) rfl ?_
        refine hv_nm (fun x4 ex4 => ?_)
        have rx4 : inI x4 := by rw [ex4]; exact hσ 11 (((i + 1) : Int)).toNat
        refine hv_icmp_le C 31 dX12_reorders_22 (by decide) (by omega) (by omega) (fun h22 => ?_) (fun h22 => ?_)
        · skip
          have zi : ro1 (σ 11) n = i := by unfold ro1; rw [← hr9]; first | (rw [show (i + 1).toNat = 0 by omega]; rfl) | (rw [show (i + 1).toNat = i.toNat + 1 by omega, ri, if_neg (by omega)])
          refine hv_iload_n C 2 2 dX12_reorders_31 rfl rfl ?_
          refine hv_if_ge C 37 dX12_reorders_32 (by decide) (by omega) (fun h32 => ?_) (fun h32 => ?_)
          · skip
            refine hv_iload_n C 1 1 dX12_reorders_37 rfl rfl ?_
            refine hv_iconst C dX12_reorders_38 ?_
            refine hv_isub C dX12_reorders_39 ?_
            refine hv_istore_n C 3 [(3, .int (iz (((n : Nat) : Int) - 1))), (0, .ref a0), (1, .int (iz ((n : Nat) : Int))), (2, .int (iz i))] dX12_reorders_40 rfl (by decide) rfl ?_
            have L41 : ∀ (f : Nat) (j : Int), (j + 3).toNat < f → (i + 1 ≤ j ∧ j ≤ ((n : Nat) : Int) - 1) → (rj (σ 11) (σ 11 i.toNat) j.toNat j = rj (σ 11) (σ 11 i.toNat) (((n : Nat) : Int) - 1).toNat (((n : Nat) : Int) - 1)) → hvV p l e { frames := 1, cells := 0, slots := 0, locals := 23 } s m args below meth c 6 (moR a0) 0 0 (MQ below (moQ D cI cZ a0 (some (.int (iz (xb (decide (0 ≤ ro1 (σ 11) n)))))) (if 0 ≤ ro1 (σ 11) n then sA σ 11 (ro3 (σ 11) n) else σ)) args s 0 0 (moR a0)) (moI D cI cZ a0 s.heap σ) 41 [(0, .ref a0), (1, .int (iz ((n : Nat) : Int))), (2, .int (iz i)), (3, .int (iz j))] [] := by
              intro f
              induction f with
              | zero => intro _ hm; exact absurd hm (Nat.not_lt_zero _)
              | succ f ih41 =>
                intro j hm41 hj0 hr8
                refine hv_aload_n C 0 0 dX12_reorders_41 rfl rfl ?_
                refine mo_geta C K 21 11 (by decide) rfl mo_hw fl_41 rfl dX12_reorders_42 ?_
                refine hv_iload_n C 3 3 dX12_reorders_45 rfl rfl ?_
                refine mo_iald C K 11 7 ((j : Int)).toNat rfl (by omega) (by omega) (by decide) dX12_reorders_46 ?_
                refine hv_as (σ 11 ((j : Int)).toNat) rfl ?_
                refine hv_nm (fun x5 ex5 => ?_)
                have rx5 : inI x5 := by rw [ex5]; exact hσ 11 ((j : Int)).toNat
                refine hv_aload_n C 0 0 dX12_reorders_47 rfl rfl ?_
                refine mo_geta C K 21 11 (by decide) rfl mo_hw fl_41 rfl dX12_reorders_48 ?_
                refine hv_iload_n C 2 2 dX12_reorders_51 rfl rfl ?_
                refine mo_iald C K 11 7 ((i : Int)).toNat rfl (by omega) (by omega) (by decide) dX12_reorders_52 ?_
                refine hv_as (σ 11 ((i : Int)).toNat) rfl ?_
                refine hv_nm (fun x6 ex6 => ?_)
                have rx6 : inI x6 := by rw [ex6]; exact hσ 11 ((i : Int)).toNat
                refine hv_icmp_ge C 62 dX12_reorders_53 (by decide) (by omega) (by omega) (fun h53 => ?_) (fun h53 => ?_)
                · skip
                  have zj : rj (σ 11) (σ 11 i.toNat) (((n : Nat) : Int) - 1).toNat (((n : Nat) : Int) - 1) = j := by rw [← hr8, show j.toNat = (j - 1).toNat + 1 by omega, rj, if_neg (by omega)]
                  obtain ⟨iN, rfl⟩ : ∃ n : Nat, i = (n : Int) := ⟨(i).toNat, by omega⟩
                  obtain ⟨jN, rfl⟩ : ∃ n : Nat, j = (n : Int) := ⟨(j).toNat, by omega⟩
                  refine hv_aload_n C 0 0 dX12_reorders_62 rfl rfl ?_
                  refine hv_iload_n C 2 2 dX12_reorders_63 rfl rfl ?_
                  refine hv_iload_n C 3 3 dX12_reorders_64 rfl rfl ?_
                  refine mo_call [.int (iz ((iN : Nat) : Int)), .int (iz ((jN : Nat) : Int))] [] C K (k_swap l σ iN jN hσ (by omega) (by omega)) ck_swap (by decide) rfl (Nat.le_of_ble_eq_true rfl) dX12_reorders_65 ?_
                  refine mo_st (σ2 := sA σ 11 (ua (ua (σ 11) iN ((σ 11) jN)) jN ((σ 11) iN))) (by first | rfl | (simp only [u2_sA, sA_sA, sA_at]; done) | (rw [u2_sA, u2_sA, sA_sA]; rfl) | (rw [u2_sA, u2_sA, sA_sA, sA_sA]; rfl)) ?_
                  refine hv_iload_n C 2 2 dX12_reorders_68 rfl rfl ?_
                  refine hv_iconst C dX12_reorders_69 ?_
                  refine hv_iadd C dX12_reorders_70 ?_
                  refine hv_istore C 4 [(4, .int (iz (((iN : Nat) : Int) + 1))), (0, .ref a0), (1, .int (iz ((n : Nat) : Int))), (2, .int (iz ((iN : Nat) : Int))), (3, .int (iz ((jN : Nat) : Int)))] dX12_reorders_71 (by decide) rfl ?_
                  refine hv_iload_n C 1 2 dX12_reorders_73 rfl rfl ?_
                  refine hv_iconst C dX12_reorders_74 ?_
                  refine hv_isub C dX12_reorders_75 ?_
                  refine hv_istore C 5 [(5, .int (iz (((n : Nat) : Int) - 1))), (4, .int (iz (((iN : Nat) : Int) + 1))), (0, .ref a0), (1, .int (iz ((n : Nat) : Int))), (2, .int (iz ((iN : Nat) : Int))), (3, .int (iz ((jN : Nat) : Int)))] dX12_reorders_76 (by decide) rfl ?_
                  have L78 : ∀ (f : Nat) (a : Int) (b : Int) (O2 : Nat → Int), (b + 200).toNat < f → (1 ≤ a ∧ a ≤ 100 ∧ b ≤ ((n : Nat) : Int) - 1 ∧ -100 ≤ b ∧ b ≤ 100 - a) → (∀ q, inI (O2 q)) → (rv b.toNat a b O2 = rv (((n : Nat) : Int) - 1).toNat (((iN : Nat) : Int) + 1) (((n : Nat) : Int) - 1) (sw (σ 11) iN jN)) → hvV p l e { frames := 1, cells := 0, slots := 0, locals := 23 } s m args below meth c 6 (moR a0) 0 0 (MQ below (moQ D cI cZ a0 (some (.int (iz (xb (decide (0 ≤ ro1 (σ 11) n)))))) (if 0 ≤ ro1 (σ 11) n then sA σ 11 (ro3 (σ 11) n) else σ)) args s 0 0 (moR a0)) (moI D cI cZ a0 s.heap (sA σ 11 O2)) 78 [(0, .ref a0), (1, .int (iz ((n : Nat) : Int))), (2, .int (iz ((iN : Nat) : Int))), (3, .int (iz ((jN : Nat) : Int))), (4, .int (iz a)), (5, .int (iz b))] [] := by
                    intro f
                    induction f with
                    | zero => intro _ _ _ hm; exact absurd hm (Nat.not_lt_zero _)
                    | succ f ih78 =>
                      intro a b O2 hm78 ha hO hr7
                      refine hv_iload C 4 4 dX12_reorders_78 rfl ?_
                      refine hv_iload C 5 5 dX12_reorders_80 rfl ?_
                      refine hv_icmp_ge C 102 dX12_reorders_82 (by decide) (by omega) (by omega) (fun h82 => ?_) (fun h82 => ?_)
                      · skip
                        have z7 := hr7
                        rw [rv_x (by omega)] at z7
                        refine hv_iconst C dX12_reorders_102 ?_
                        exact mo_zret (Qc := fun _ _ _ _ => True) C hr hlk ((xb_t (decide_eq_true (by omega))).symm) (by first | exact if_n (by omega) rfl | (refine if_p (by omega) ?_; unfold ro3 ro2; rw [zi]; simp only [Int.toNat_natCast] at zj ⊢; rw [zj]; exact congrArg (sA σ 11) z7)) dX12_reorders_103
                      · skip
                        obtain ⟨aN, rfl⟩ : ∃ n : Nat, a = (n : Int) := ⟨(a).toNat, by omega⟩
                        obtain ⟨bN, rfl⟩ : ∃ n : Nat, b = (n : Int) := ⟨(b).toNat, by omega⟩
                        refine hv_aload_n C 0 0 dX12_reorders_85 rfl rfl ?_
                        refine hv_iload C 4 4 dX12_reorders_86 rfl ?_
                        refine hv_iload C 5 5 dX12_reorders_88 rfl ?_
                        refine mo_call [.int (iz ((aN : Nat) : Int)), .int (iz ((bN : Nat) : Int))] [] C K (k_swap l (sA σ 11 O2) aN bN (by repeat (first | assumption | refine rg_sA ?_ ?_ | refine in_ua ?_ (by omega) | exact fun _ => hσ _ _)) (by omega) (by omega)) ck_swap (by decide) rfl (Nat.le_of_ble_eq_true rfl) dX12_reorders_90 ?_
                        refine mo_st (σ2 := sA σ 11 (ua (ua O2 aN (O2 bN)) bN (O2 aN))) (by first | rfl | (simp only [u2_sA, sA_sA, sA_at]; done) | (rw [u2_sA, u2_sA, sA_sA]; rfl) | (rw [u2_sA, u2_sA, sA_sA, sA_sA]; rfl)) ?_
                        refine hv_iinc C 4 4 [(4, .int (iz (((aN : Nat) : Int) + 1))), (0, .ref a0), (1, .int (iz ((n : Nat) : Int))), (2, .int (iz ((iN : Nat) : Int))), (3, .int (iz ((jN : Nat) : Int))), (5, .int (iz ((bN : Nat) : Int)))] dX12_reorders_93 rfl (by decide) rfl ?_
                        refine hv_iinc C 5 5 [(5, .int (iz (((bN : Nat) : Int) + (-1)))), (4, .int (iz (((aN : Nat) : Int) + 1))), (0, .ref a0), (1, .int (iz ((n : Nat) : Int))), (2, .int (iz ((iN : Nat) : Int))), (3, .int (iz ((jN : Nat) : Int)))] dX12_reorders_96 rfl (by decide) rfl ?_
                        refine hv_goto C 78 dX12_reorders_99 (by decide) ?_
                        refine hv_loc [2, 3, 4, 5, 1, 0] [(0, .ref a0), (1, .int (iz ((n : Nat) : Int))), (2, .int (iz ((iN : Nat) : Int))), (3, .int (iz ((jN : Nat) : Int))), (4, .int (iz (((aN : Nat) : Int) + 1))), (5, .int (iz (((bN : Nat) : Int) + (-1))))] rfl ?_
                        exact ih78 (((aN : Nat) : Int) + 1) (((bN : Nat) : Int) + (-1)) (ua (ua O2 aN (O2 bN)) bN (O2 aN)) (by omega) (by omega) (in_ua (in_ua hO (hO _)) (hO _)) (by rw [← hr7, show (((bN : Nat) : Int)).toNat = (((bN : Nat) : Int) + -1).toNat + 1 by omega, rv, if_pos (by omega)]; rfl)
                  refine hv_loc [2, 3, 4, 5, 1, 0] [(0, .ref a0), (1, .int (iz ((n : Nat) : Int))), (2, .int (iz ((iN : Nat) : Int))), (3, .int (iz ((jN : Nat) : Int))), (4, .int (iz (((iN : Nat) : Int) + 1))), (5, .int (iz (((n : Nat) : Int) - 1)))] rfl ?_
                  exact L78 _ (((iN : Nat) : Int) + 1) (((n : Nat) : Int) - 1) (ua (ua (σ 11) iN ((σ 11) jN)) jN ((σ 11) iN)) (Nat.lt_succ_self _) (by omega) (in_ua (in_ua (fun _ => hσ _ _) (hσ _ _)) (hσ _ _)) rfl
                · skip
                  refine hv_iinc C 3 3 [(3, .int (iz (j + (-1)))), (0, .ref a0), (1, .int (iz ((n : Nat) : Int))), (2, .int (iz i))] dX12_reorders_56 rfl (by decide) rfl ?_
                  refine hv_goto C 41 dX12_reorders_59 (by decide) ?_
                  refine hv_loc [1, 2, 3, 0] [(0, .ref a0), (1, .int (iz ((n : Nat) : Int))), (2, .int (iz i)), (3, .int (iz (j + (-1))))] rfl ?_
                  exact ih41 (j + (-1)) (by omega) (by have zz : j ≠ i + 1 := (fun e9 => by subst e9; omega); omega) (by rw [← hr8, show j.toNat = (j + -1).toNat + 1 by omega, rj, if_pos (by omega)])
            refine hv_loc [1, 2, 3, 0] [(0, .ref a0), (1, .int (iz ((n : Nat) : Int))), (2, .int (iz i)), (3, .int (iz (((n : Nat) : Int) - 1)))] rfl ?_
            exact L41 _ (((n : Nat) : Int) - 1) (Nat.lt_succ_self _) (by omega) rfl
          · skip
            refine hv_iconst C dX12_reorders_35 ?_
            exact mo_zret (Qc := fun _ _ _ _ => True) C hr hlk ((xb_f (decide_eq_false (by omega))).symm) (by first | exact if_n (by omega) rfl | (refine if_p (by omega) ?_; unfold ro3 ro2; rw [zi]; simp only [Int.toNat_natCast] at zj ⊢; rw [zj]; exact congrArg (sA σ 11) z7)) dX12_reorders_36
        · skip
          refine hv_iinc C 2 2 [(2, .int (iz (i + (-1)))), (0, .ref a0), (1, .int (iz ((n : Nat) : Int)))] dX12_reorders_25 rfl (by decide) rfl ?_
          refine hv_goto C 4 dX12_reorders_28 (by decide) ?_
          refine hv_loc [1, 2, 0] [(0, .ref a0), (1, .int (iz ((n : Nat) : Int))), (2, .int (iz (i + (-1))))] rfl ?_
          exact ih4 (i + (-1)) (by omega) (by omega) (by omega) (by rw [← hr9, show (i + 1).toNat = (i + -1 + 1).toNat + 1 by omega, ri, if_pos ⟨by omega, by omega⟩])
  refine hv_loc [1, 2, 0] [(0, .ref a0), (1, .int (iz ((n : Nat) : Int))), (2, .int (iz (((n : Nat) : Int) - 2)))] rfl ?_
  exact L4 _ (((n : Nat) : Int) - 2) (Nat.lt_succ_self _) (by omega) (by omega) (by rw [show (((n : Nat) : Int) - 2 + 1) = ((n : Nat) : Int) - 1 by omega])
