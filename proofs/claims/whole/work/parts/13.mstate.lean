def pz (A : Nat → Int) (q : Nat) (sort : Int) : Nat → (Nat → Int)
  | 0 => ua A q sort
  | t + 1 => ua (pz A q sort t) (q + 1 + t) 0
theorem pz_lo (A : Nat → Int) {q k : Nat} (sort : Int) (h : k < q) : ∀ t : Nat, pz A q sort t k = A k
  | 0 => ua_ne A sort (by omega)
  | t + 1 => by rw [pz, ua_ne _ _ (by omega)]; exact pz_lo A sort h t
def do_piece (A : Nat → Int) (sort : Int) : Nat → Int := ua (pz A (750 + 7 * (A 7).toNat) sort 6) 7 (A 7 + 1)
def im (A : Nat → Int) (k : Nat) : Nat → (Nat → Int)
  | 0 => A
  | i + 1 => ua (im A k i) (2260 * (k + 1) + i) ((im A k i) i)
def ag (A : Nat → Int) (k : Nat) : Nat → (Nat → Int)
  | 0 => A
  | i + 1 => ua (ag A k i) i ((ag A k i) (2260 * (k + 1) + i))
def mi (L : Nat → Int) (n : Nat) (v : Int) : Nat → (Nat → Int)
  | 0 => L
  | s + 1 => ua (mi L n v s) (n + s) ((mi L n v s) s + v)
def ms (A L : Nat → Int) : Nat → (Nat → Int)
  | 0 => L
  | w + 1 => mi (ms A L w) (2 ^ w) (A (30 + 4 * w + 2)) (2 ^ w)
def gq (A T : Nat → Int) (k j : Nat) : Bool := decide (¬ T k - T j = 0 ∧ ((¬ T k - T j = 1 ∧ ¬ T k - T j = -1) ∨ ¬ A (750 + 7 * k) = A (750 + 7 * j)))
def gs (A T : Nat → Int) (k : Nat) : Nat → Bool
  | 0 => true
  | j + 1 => gs A T k j && gq A T k j
theorem gs_f {A T : Nat → Int} {k j : Nat} (u : Nat) (e : gs A T k j = false) (l : j ≤ u) : gs A T k u = false := by
  induction u with
  | zero => have : j = 0 := (by omega); subst this; exact e
  | succ u ih =>
    by_cases q : j = u + 1
    · subst q; exact e
    · rw [gs, ih (by omega)]; rfl
def ks (A T : Nat → Int) : Nat → Int
  | 0 => 0
  | k + 1 => ks A T k + A (750 + 7 * k + 1 + (T k).toNat)
def kc (G T : Nat → Int) : Nat → (Nat → Int)
  | 0 => G
  | k + 1 => ua (kc G T k) k (T k)
theorem sA_id (σ : Nat → Nat → Int) (j : Nat) : sA σ j (σ j) = σ := by
  funext x; simp only [sA]; split
  · next h => rw [h]
  · rfl
def piI (A : Nat → Int) : Prop := ∀ k : Nat, (k : Int) < A 7 → (0 ≤ A (750 + 7 * k) ∧ A (750 + 7 * k) ≤ 7) ∧ ∀ t : Nat, t < 6 → 0 ≤ A (750 + 7 * k + 1 + t) ∧ A (750 + 7 * k + 1 + t) ≤ 9999

theorem dX12_piece_0 : decode cX12_piece 0 = .ok (.aload_n 0, 1) := by decide +kernel
theorem dX12_piece_1 : decode cX12_piece 1 = .ok (.getfield 7, 3) := by decide +kernel
theorem dX12_piece_4 : decode cX12_piece 4 = .ok (.bipush 7, 2) := by decide +kernel
theorem dX12_piece_6 : decode cX12_piece 6 = .ok (.iaload, 1) := by decide +kernel
theorem dX12_piece_7 : decode cX12_piece 7 = .ok (.bipush 6, 2) := by decide +kernel
theorem dX12_piece_9 : decode cX12_piece 9 = .ok (.if_icmp .eq 13, 3) := by decide +kernel
theorem dX12_piece_12 : decode cX12_piece 12 = .ok (.iload_n 1, 1) := by decide +kernel
theorem dX12_piece_13 : decode cX12_piece 13 = .ok (.iconst 0, 1) := by decide +kernel
theorem dX12_piece_14 : decode cX12_piece 14 = .ok (.bipush 7, 2) := by decide +kernel
theorem dX12_piece_16 : decode cX12_piece 16 = .ok (.invokestatic 59, 3) := by decide +kernel
theorem dX12_piece_19 : decode cX12_piece 19 = .ok (.ifCond .ne 5, 3) := by decide +kernel
theorem dX12_piece_22 : decode cX12_piece 22 = .ok (.iconst (-1), 1) := by decide +kernel
theorem dX12_piece_23 : decode cX12_piece 23 = .ok (.ireturn, 1) := by decide +kernel
theorem dX12_piece_24 : decode cX12_piece 24 = .ok (.sipush 750, 3) := by decide +kernel
theorem dX12_piece_27 : decode cX12_piece 27 = .ok (.bipush 7, 2) := by decide +kernel
theorem dX12_piece_29 : decode cX12_piece 29 = .ok (.aload_n 0, 1) := by decide +kernel
theorem dX12_piece_30 : decode cX12_piece 30 = .ok (.getfield 7, 3) := by decide +kernel
theorem dX12_piece_33 : decode cX12_piece 33 = .ok (.bipush 7, 2) := by decide +kernel
theorem dX12_piece_35 : decode cX12_piece 35 = .ok (.iaload, 1) := by decide +kernel
theorem dX12_piece_36 : decode cX12_piece 36 = .ok (.imul, 1) := by decide +kernel
theorem dX12_piece_37 : decode cX12_piece 37 = .ok (.iadd, 1) := by decide +kernel
theorem dX12_piece_38 : decode cX12_piece 38 = .ok (.istore_n 2, 1) := by decide +kernel
theorem dX12_piece_39 : decode cX12_piece 39 = .ok (.aload_n 0, 1) := by decide +kernel
theorem dX12_piece_40 : decode cX12_piece 40 = .ok (.getfield 7, 3) := by decide +kernel
theorem dX12_piece_43 : decode cX12_piece 43 = .ok (.iload_n 2, 1) := by decide +kernel
theorem dX12_piece_44 : decode cX12_piece 44 = .ok (.iload_n 1, 1) := by decide +kernel
theorem dX12_piece_45 : decode cX12_piece 45 = .ok (.iastore, 1) := by decide +kernel
theorem dX12_piece_46 : decode cX12_piece 46 = .ok (.iconst 0, 1) := by decide +kernel
theorem dX12_piece_47 : decode cX12_piece 47 = .ok (.istore_n 3, 1) := by decide +kernel
theorem dX12_piece_48 : decode cX12_piece 48 = .ok (.iload_n 3, 1) := by decide +kernel
theorem dX12_piece_49 : decode cX12_piece 49 = .ok (.bipush 6, 2) := by decide +kernel
theorem dX12_piece_51 : decode cX12_piece 51 = .ok (.if_icmp .ge 20, 3) := by decide +kernel
theorem dX12_piece_54 : decode cX12_piece 54 = .ok (.aload_n 0, 1) := by decide +kernel
theorem dX12_piece_55 : decode cX12_piece 55 = .ok (.getfield 7, 3) := by decide +kernel
theorem dX12_piece_58 : decode cX12_piece 58 = .ok (.iload_n 2, 1) := by decide +kernel
theorem dX12_piece_59 : decode cX12_piece 59 = .ok (.iconst 1, 1) := by decide +kernel
theorem dX12_piece_60 : decode cX12_piece 60 = .ok (.iadd, 1) := by decide +kernel
theorem dX12_piece_61 : decode cX12_piece 61 = .ok (.iload_n 3, 1) := by decide +kernel
theorem dX12_piece_62 : decode cX12_piece 62 = .ok (.iadd, 1) := by decide +kernel
theorem dX12_piece_63 : decode cX12_piece 63 = .ok (.iconst 0, 1) := by decide +kernel
theorem dX12_piece_64 : decode cX12_piece 64 = .ok (.iastore, 1) := by decide +kernel
theorem dX12_piece_65 : decode cX12_piece 65 = .ok (.iinc 3 1, 3) := by decide +kernel
theorem dX12_piece_68 : decode cX12_piece 68 = .ok (.goto (-20), 3) := by decide +kernel
theorem dX12_piece_71 : decode cX12_piece 71 = .ok (.aload_n 0, 1) := by decide +kernel
theorem dX12_piece_72 : decode cX12_piece 72 = .ok (.getfield 7, 3) := by decide +kernel
theorem dX12_piece_75 : decode cX12_piece 75 = .ok (.bipush 7, 2) := by decide +kernel
theorem dX12_piece_77 : decode cX12_piece 77 = .ok (.dup2, 1) := by decide +kernel
theorem dX12_piece_78 : decode cX12_piece 78 = .ok (.iaload, 1) := by decide +kernel
theorem dX12_piece_79 : decode cX12_piece 79 = .ok (.iconst 1, 1) := by decide +kernel
theorem dX12_piece_80 : decode cX12_piece 80 = .ok (.iadd, 1) := by decide +kernel
theorem dX12_piece_81 : decode cX12_piece 81 = .ok (.iastore, 1) := by decide +kernel
theorem dX12_piece_82 : decode cX12_piece 82 = .ok (.aload_n 0, 1) := by decide +kernel
theorem dX12_piece_83 : decode cX12_piece 83 = .ok (.getfield 7, 3) := by decide +kernel
theorem dX12_piece_86 : decode cX12_piece 86 = .ok (.bipush 7, 2) := by decide +kernel
theorem dX12_piece_88 : decode cX12_piece 88 = .ok (.iaload, 1) := by decide +kernel
theorem dX12_piece_89 : decode cX12_piece 89 = .ok (.iconst 1, 1) := by decide +kernel
theorem dX12_piece_90 : decode cX12_piece 90 = .ok (.isub, 1) := by decide +kernel
theorem dX12_piece_91 : decode cX12_piece 91 = .ok (.ireturn, 1) := by decide +kernel
set_option maxRecDepth 100000 in
set_option maxHeartbeats 4000000 in
theorem k_piece (l : Launch) {D : va_G} {cI cZ : ClassId} {a0 : Nat} (σ : Nat → Nat → Int) (sort : Int) (hσ : rg σ) (hc : cn (σ 1)) (r_sort : inI sort) : moM l D cI cZ a0 yX12_piece cX12_piece 4 (some .int) 1 22 [.ref a0, .int (iz sort)] σ (some (.int (iz (if (¬ σ 1 7 = 6 ∧ (0 ≤ sort ∧ sort ≤ 7)) then σ 1 7 else -1)))) (if (¬ σ 1 7 = 6 ∧ (0 ≤ sort ∧ sort ≤ 7)) then sA σ 1 (do_piece (σ 1) sort) else σ) := by
  refine mo_start (by decide) rfl (Nat.le_of_ble_eq_true rfl) ?_
  intro p e s m args below meth c C K hr hlk
  refine hv_aload_n C 0 0 dX12_piece_0 rfl rfl ?_
  refine mo_geta C K 0 1 (by decide) rfl mo_hw fl_7 rfl dX12_piece_1 ?_
  refine hv_bipush C dX12_piece_4 (by decide) ?_
  refine mo_iald C K 1 9040 7 rfl (by omega) (by omega) (by decide) dX12_piece_6 ?_
  refine hv_nm (fun x1 ex1 => ?_)
  have rx1 : inI x1 := by rw [ex1]; exact hσ 1 7
  refine hv_bipush C dX12_piece_7 (by decide) ?_
  refine hv_icmp_eq C 22 dX12_piece_9 (by decide) (by omega) (by omega) (fun h9 => ?_) (fun h9 => ?_)
  · skip
    refine hv_iconst C dX12_piece_22 ?_
    exact mo_iret (Qc := fun _ _ _ _ => True) C hr hlk (by first | exact if_n (by omega) rfl | (refine if_p (by omega) ?_; subst_vars; simp only [u2_same, sA_at]; rw [pz_lo _ _ (by omega)]; omega)) (by first | exact if_n (by omega) rfl | (refine if_p (by omega) ?_; have e5 : t = 6 := (by omega); subst e5; have zq9 : (σ 1 7).toNat = n1 := (by omega); subst_vars; simp only [u2_sA, sA_sA, sA_at, do_piece]; rw [pz_lo _ _ (by omega)])) dX12_piece_23
  · skip
    refine hv_iload_n C 1 1 dX12_piece_12 rfl rfl ?_
    refine hv_iconst C dX12_piece_13 ?_
    refine hv_bipush C dX12_piece_14 (by decide) ?_
    refine mo_callS [.int (iz sort), .int (iz 0), .int (iz 7)] [] C K (k_isIn l σ sort 0 7 (by omega) (by omega) (by omega)) ck_isIn (by decide) rfl (Nat.le_of_ble_eq_true rfl) dX12_piece_16 ?_
    refine hv_dif_ne C 24 dX12_piece_19 (by decide)  (fun h19 => ?_) (fun h19 => ?_)
    · skip
      refine hv_sipush C dX12_piece_24 (by decide) ?_
      refine hv_bipush C dX12_piece_27 (by decide) ?_
      refine hv_aload_n C 0 0 dX12_piece_29 rfl rfl ?_
      refine mo_geta C K 0 1 (by decide) rfl mo_hw fl_7 rfl dX12_piece_30 ?_
      refine hv_bipush C dX12_piece_33 (by decide) ?_
      refine mo_iald C K 1 9040 7 rfl (by omega) (by omega) (by decide) dX12_piece_35 ?_
      refine hv_nm (fun x2 ex2 => ?_)
      have rx2 : inI x2 := by rw [ex2]; exact hσ 1 7
      obtain ⟨n1, rfl⟩ : ∃ n : Nat, x2 = (n : Int) := ⟨(x2).toNat, by omega⟩
      refine hv_imul C dX12_piece_36 ?_
      refine hv_iadd C dX12_piece_37 ?_
      refine hv_istore_n C 2 [(2, .int (iz (750 + (7 * ((n1 : Nat) : Int))))), (0, .ref a0), (1, .int (iz sort))] dX12_piece_38 rfl (by decide) rfl ?_
      refine hv_aload_n C 0 1 dX12_piece_39 rfl rfl ?_
      refine mo_geta C K 0 1 (by decide) rfl mo_hw fl_7 rfl dX12_piece_40 ?_
      refine hv_iload_n C 2 0 dX12_piece_43 rfl rfl ?_
      refine hv_iload_n C 1 2 dX12_piece_44 rfl rfl ?_
      refine mo_iast C K 1 9040 (750 + (7 * n1)) rfl (moW_set1 _ _ _ _ _ _) (by omega) (by omega) (by decide) dX12_piece_45 ?_
      refine hv_iconst C dX12_piece_46 ?_
      refine hv_istore_n C 3 [(3, .int (iz 0)), (2, .int (iz (750 + (7 * ((n1 : Nat) : Int))))), (0, .ref a0), (1, .int (iz sort))] dX12_piece_47 rfl (by decide) rfl ?_
      have L48 : ∀ (f : Nat) (t : Nat) (τ : Nat → Nat → Int), 6 - t < f → t ≤ 6 → τ = sA σ 1 (pz (σ 1) (750 + 7 * n1) sort t) → hvV p l e { frames := 1, cells := 0, slots := 0, locals := 22 } s m args below meth c 4 (moR a0) 0 0 (MQ below (moQ D cI cZ a0 (some (.int (iz (if (¬ σ 1 7 = 6 ∧ (0 ≤ sort ∧ sort ≤ 7)) then σ 1 7 else -1)))) (if (¬ σ 1 7 = 6 ∧ (0 ≤ sort ∧ sort ≤ 7)) then sA σ 1 (do_piece (σ 1) sort) else σ)) args s 0 0 (moR a0)) (moI D cI cZ a0 s.heap (τ)) 48 [(0, .ref a0), (1, .int (iz sort)), (2, .int (iz (750 + (7 * ((n1 : Nat) : Int))))), (3, .int (iz ((t : Nat) : Int)))] [] := by
        intro f
        induction f with
        | zero => intro _ _ hm; exact absurd hm (Nat.not_lt_zero _)
        | succ f ih48 =>
          intro t τ hm48 ht hτ
          refine hv_iload_n C 3 3 dX12_piece_48 rfl rfl ?_
          refine hv_bipush C dX12_piece_49 (by decide) ?_
          refine hv_icmp_ge C 71 dX12_piece_51 (by decide) (by omega) (by omega) (fun h51 => ?_) (fun h51 => ?_)
          · skip
            refine hv_aload_n C 0 0 dX12_piece_71 rfl rfl ?_
            refine mo_geta C K 0 1 (by decide) rfl mo_hw fl_7 rfl dX12_piece_72 ?_
            refine hv_bipush C dX12_piece_75 (by decide) ?_
            refine hv_dup2 C dX12_piece_77 rfl rfl ?_
            refine mo_iald C K 1 9040 7 rfl (by omega) (by omega) (by decide) dX12_piece_78 ?_
            refine hv_nm (fun x3 ex3 => ?_)
            refine hv_iconst C dX12_piece_79 ?_
            refine hv_iadd C dX12_piece_80 ?_
            refine mo_iast C K 1 9040 7 rfl (moW_set1 _ _ _ _ _ _) (by omega) (by omega) (by decide) dX12_piece_81 ?_
            refine hv_aload_n C 0 0 dX12_piece_82 rfl rfl ?_
            refine mo_geta C K 0 1 (by decide) rfl mo_hw fl_7 rfl dX12_piece_83 ?_
            refine hv_bipush C dX12_piece_86 (by decide) ?_
            refine mo_iald C K 1 9040 7 rfl (by omega) (by omega) (by decide) dX12_piece_88 ?_
            refine hv_nm (fun x4 ex4 => ?_)
            refine hv_iconst C dX12_piece_89 ?_
            refine hv_isub C dX12_piece_90 ?_
            exact mo_iret (Qc := fun _ _ _ _ => True) C hr hlk (by first | exact if_n (by omega) rfl | (refine if_p (by omega) ?_; subst_vars; simp only [u2_same, sA_at]; rw [pz_lo _ _ (by omega)]; omega)) (by first | exact if_n (by omega) rfl | (refine if_p (by omega) ?_; have e5 : t = 6 := (by omega); subst e5; have zq9 : (σ 1 7).toNat = n1 := (by omega); subst_vars; simp only [u2_sA, sA_sA, sA_at, do_piece]; rw [pz_lo _ _ (by omega)])) dX12_piece_91
          · skip
            refine hv_aload_n C 0 0 dX12_piece_54 rfl rfl ?_
            refine mo_geta C K 0 1 (by decide) rfl mo_hw fl_7 rfl dX12_piece_55 ?_
            refine hv_iload_n C 2 2 dX12_piece_58 rfl rfl ?_
            refine hv_iconst C dX12_piece_59 ?_
            refine hv_iadd C dX12_piece_60 ?_
            refine hv_iload_n C 3 3 dX12_piece_61 rfl rfl ?_
            refine hv_iadd C dX12_piece_62 ?_
            refine hv_iconst C dX12_piece_63 ?_
            refine mo_iast C K 1 9040 (((750 + (7 * n1)) + 1) + t) rfl (moW_set1 _ _ _ _ _ _) (by omega) (by omega) (by decide) dX12_piece_64 ?_
            refine hv_iinc C 3 3 [(3, .int (iz (((t : Nat) : Int) + 1))), (0, .ref a0), (1, .int (iz sort)), (2, .int (iz (750 + (7 * ((n1 : Nat) : Int)))))] dX12_piece_65 rfl (by decide) rfl ?_
            refine hv_goto C 48 dX12_piece_68 (by decide) ?_
            refine hv_loc [1, 2, 3, 0] [(0, .ref a0), (1, .int (iz sort)), (2, .int (iz (750 + (7 * ((n1 : Nat) : Int))))), (3, .int (iz (((t : Nat) : Int) + 1)))] rfl ?_
            exact ih48 (t + 1) (u2 τ 1 (((750 + (7 * n1)) + 1) + t) 0) (by omega) (by omega) (by rw [hτ, u2_sA, sA_sA, sA_at]; rfl)
      refine hv_loc [2, 3, 1, 0] [(0, .ref a0), (1, .int (iz sort)), (2, .int (iz (750 + (7 * ((n1 : Nat) : Int))))), (3, .int (iz 0))] rfl ?_
      exact L48 _ 0 (u2 σ 1 (750 + (7 * n1)) sort) (Nat.lt_succ_self _) (by omega) rfl
    · skip
      refine hv_iconst C dX12_piece_22 ?_
      exact mo_iret (Qc := fun _ _ _ _ => True) C hr hlk (by first | exact if_n (by omega) rfl | (refine if_p (by omega) ?_; subst_vars; simp only [u2_same, sA_at]; rw [pz_lo _ _ (by omega)]; omega)) (by first | exact if_n (by omega) rfl | (refine if_p (by omega) ?_; have e5 : t = 6 := (by omega); subst e5; have zq9 : (σ 1 7).toNat = n1 := (by omega); subst_vars; simp only [u2_sA, sA_sA, sA_at, do_piece]; rw [pz_lo _ _ (by omega)])) dX12_piece_23
theorem dX12_image_0 : decode cX12_image 0 = .ok (.iload_n 1, 1) := by decide +kernel
theorem dX12_image_1 : decode cX12_image 1 = .ok (.iconst 0, 1) := by decide +kernel
theorem dX12_image_2 : decode cX12_image 2 = .ok (.iconst 2, 1) := by decide +kernel
theorem dX12_image_3 : decode cX12_image 3 = .ok (.invokestatic 59, 3) := by decide +kernel
theorem dX12_image_6 : decode cX12_image 6 = .ok (.ifCond .ne 5, 3) := by decide +kernel
theorem dX12_image_9 : decode cX12_image 9 = .ok (.iconst 0, 1) := by decide +kernel
theorem dX12_image_10 : decode cX12_image 10 = .ok (.ireturn, 1) := by decide +kernel
theorem dX12_image_11 : decode cX12_image 11 = .ok (.aload_n 0, 1) := by decide +kernel
theorem dX12_image_12 : decode cX12_image 12 = .ok (.getfield 13, 3) := by decide +kernel
theorem dX12_image_15 : decode cX12_image 15 = .ok (.iload_n 1, 1) := by decide +kernel
theorem dX12_image_16 : decode cX12_image 16 = .ok (.iconst 1, 1) := by decide +kernel
theorem dX12_image_17 : decode cX12_image 17 = .ok (.bastore, 1) := by decide +kernel
theorem dX12_image_18 : decode cX12_image 18 = .ok (.iconst 0, 1) := by decide +kernel
theorem dX12_image_19 : decode cX12_image 19 = .ok (.istore_n 2, 1) := by decide +kernel
theorem dX12_image_20 : decode cX12_image 20 = .ok (.iload_n 2, 1) := by decide +kernel
theorem dX12_image_21 : decode cX12_image 21 = .ok (.sipush 2260, 3) := by decide +kernel
theorem dX12_image_24 : decode cX12_image 24 = .ok (.if_icmp .ge 29, 3) := by decide +kernel
theorem dX12_image_27 : decode cX12_image 27 = .ok (.aload_n 0, 1) := by decide +kernel
theorem dX12_image_28 : decode cX12_image 28 = .ok (.getfield 7, 3) := by decide +kernel
theorem dX12_image_31 : decode cX12_image 31 = .ok (.sipush 2260, 3) := by decide +kernel
theorem dX12_image_34 : decode cX12_image 34 = .ok (.iload_n 1, 1) := by decide +kernel
theorem dX12_image_35 : decode cX12_image 35 = .ok (.iconst 1, 1) := by decide +kernel
theorem dX12_image_36 : decode cX12_image 36 = .ok (.iadd, 1) := by decide +kernel
theorem dX12_image_37 : decode cX12_image 37 = .ok (.imul, 1) := by decide +kernel
theorem dX12_image_38 : decode cX12_image 38 = .ok (.iload_n 2, 1) := by decide +kernel
theorem dX12_image_39 : decode cX12_image 39 = .ok (.iadd, 1) := by decide +kernel
theorem dX12_image_40 : decode cX12_image 40 = .ok (.aload_n 0, 1) := by decide +kernel
theorem dX12_image_41 : decode cX12_image 41 = .ok (.getfield 7, 3) := by decide +kernel
theorem dX12_image_44 : decode cX12_image 44 = .ok (.iload_n 2, 1) := by decide +kernel
theorem dX12_image_45 : decode cX12_image 45 = .ok (.iaload, 1) := by decide +kernel
theorem dX12_image_46 : decode cX12_image 46 = .ok (.iastore, 1) := by decide +kernel
theorem dX12_image_47 : decode cX12_image 47 = .ok (.iinc 2 1, 3) := by decide +kernel
theorem dX12_image_50 : decode cX12_image 50 = .ok (.goto (-30), 3) := by decide +kernel
theorem dX12_image_53 : decode cX12_image 53 = .ok (.iconst 1, 1) := by decide +kernel
theorem dX12_image_54 : decode cX12_image 54 = .ok (.ireturn, 1) := by decide +kernel
set_option maxRecDepth 100000 in
set_option maxHeartbeats 4000000 in
theorem k_image (l : Launch) {D : va_G} {cI cZ : ClassId} {a0 : Nat} (σ : Nat → Nat → Int) (k : Int) (hσ : rg σ) (hc : cn (σ 1)) (r_k : inI k) : moM l D cI cZ a0 yX12_image cX12_image 3 (some .boolean) 1 22 [.ref a0, .int (iz k)] σ (some (.int (iz (xb (decide (0 ≤ k ∧ k ≤ 2)))))) (if 0 ≤ k ∧ k ≤ 2 then sA (u2 σ 2 k.toNat (xb true)) 1 (im (σ 1) k.toNat 2260) else σ) := by
  refine mo_start (by decide) rfl (Nat.le_of_ble_eq_true rfl) ?_
  intro p e s m args below meth c C K hr hlk
  refine hv_iload_n C 1 1 dX12_image_0 rfl rfl ?_
  refine hv_iconst C dX12_image_1 ?_
  refine hv_iconst C dX12_image_2 ?_
  refine mo_callS [.int (iz k), .int (iz 0), .int (iz 2)] [] C K (k_isIn l σ k 0 2 (by omega) (by omega) (by omega)) ck_isIn (by decide) rfl (Nat.le_of_ble_eq_true rfl) dX12_image_3 ?_
  refine hv_dif_ne C 11 dX12_image_6 (by decide)  (fun h6 => ?_) (fun h6 => ?_)
  · skip
    obtain ⟨kn, rfl⟩ : ∃ n : Nat, k = (n : Int) := ⟨(k).toNat, by omega⟩
    refine hv_aload_n C 0 0 dX12_image_11 rfl rfl ?_
    refine mo_geta C K 1 2 (by decide) rfl mo_hw fl_13 rfl dX12_image_12 ?_
    refine hv_iload_n C 1 1 dX12_image_15 rfl rfl ?_
    refine hv_iconst C dX12_image_16 ?_
    refine mo_zast C K 2 3 kn true rfl (moW_set2 _ _ _ _ _ _) (by omega) (by omega) (by decide) dX12_image_17 ?_
    refine hv_iconst C dX12_image_18 ?_
    refine hv_istore_n C 2 [(2, .int (iz 0)), (0, .ref a0), (1, .int (iz ((kn : Nat) : Int)))] dX12_image_19 rfl (by decide) rfl ?_
    have L20 : ∀ (f : Nat) (i : Nat) (τ : Nat → Nat → Int), 2260 - i < f → i ≤ 2260 → τ = sA (u2 σ 2 kn (xb true)) 1 (im (σ 1) kn i) → hvV p l e { frames := 1, cells := 0, slots := 0, locals := 22 } s m args below meth c 3 (moR a0) 0 0 (MQ below (moQ D cI cZ a0 (some (.int (iz (xb (decide (0 ≤ ((kn : Nat) : Int) ∧ ((kn : Nat) : Int) ≤ 2)))))) (if 0 ≤ ((kn : Nat) : Int) ∧ ((kn : Nat) : Int) ≤ 2 then sA (u2 σ 2 ((kn : Nat) : Int).toNat (xb true)) 1 (im (σ 1) ((kn : Nat) : Int).toNat 2260) else σ)) args s 0 0 (moR a0)) (moI D cI cZ a0 s.heap (τ)) 20 [(0, .ref a0), (1, .int (iz ((kn : Nat) : Int))), (2, .int (iz ((i : Nat) : Int)))] [] := by
      intro f
      induction f with
      | zero => intro _ _ hm; exact absurd hm (Nat.not_lt_zero _)
      | succ f ih20 =>
        intro i τ hm20 hi0 hτ
        refine hv_iload_n C 2 2 dX12_image_20 rfl rfl ?_
        refine hv_sipush C dX12_image_21 (by decide) ?_
        refine hv_icmp_ge C 53 dX12_image_24 (by decide) (by omega) (by omega) (fun h24 => ?_) (fun h24 => ?_)
        · skip
          refine hv_iconst C dX12_image_53 ?_
          exact mo_zret (Qc := fun _ _ _ _ => True) C hr hlk ((xb_t (decide_eq_true (by omega))).symm) (by first | exact if_n (by omega) rfl | (refine if_p (by omega) ?_; have e5 : i = 2260 := (by omega); subst e5; simp only [Int.toNat_natCast]; exact hτ)) dX12_image_54
        · skip
          refine hv_aload_n C 0 0 dX12_image_27 rfl rfl ?_
          refine mo_geta C K 0 1 (by decide) rfl mo_hw fl_7 rfl dX12_image_28 ?_
          refine hv_sipush C dX12_image_31 (by decide) ?_
          refine hv_iload_n C 1 1 dX12_image_34 rfl rfl ?_
          refine hv_iconst C dX12_image_35 ?_
          refine hv_iadd C dX12_image_36 ?_
          refine hv_imul C dX12_image_37 ?_
          refine hv_iload_n C 2 2 dX12_image_38 rfl rfl ?_
          refine hv_iadd C dX12_image_39 ?_
          refine hv_aload_n C 0 0 dX12_image_40 rfl rfl ?_
          refine mo_geta C K 0 1 (by decide) rfl mo_hw fl_7 rfl dX12_image_41 ?_
          refine hv_iload_n C 2 2 dX12_image_44 rfl rfl ?_
          refine mo_iald C K 1 9040 i rfl (by omega) (by omega) (by decide) dX12_image_45 ?_
          refine hv_nm (fun x1 ex1 => ?_)
          refine mo_iast C K 1 9040 ((2260 * (kn + 1)) + i) rfl (moW_set1 _ _ _ _ _ _) (by omega) (by omega) (by decide) dX12_image_46 ?_
          refine hv_iinc C 2 2 [(2, .int (iz (((i : Nat) : Int) + 1))), (0, .ref a0), (1, .int (iz ((kn : Nat) : Int)))] dX12_image_47 rfl (by decide) rfl ?_
          refine hv_goto C 20 dX12_image_50 (by decide) ?_
          refine hv_loc [1, 2, 0] [(0, .ref a0), (1, .int (iz ((kn : Nat) : Int))), (2, .int (iz (((i : Nat) : Int) + 1)))] rfl ?_
          exact ih20 (i + 1) (u2 τ 1 ((2260 * (kn + 1)) + i) x1) (by omega) (by omega) (by subst_vars; simp only [u2_sA, sA_sA, sA_at, im])
    refine hv_loc [1, 2, 0] [(0, .ref a0), (1, .int (iz ((kn : Nat) : Int))), (2, .int (iz 0))] rfl ?_
    exact L20 _ 0 (u2 σ 2 kn (xb true)) (Nat.lt_succ_self _) (by omega) (sA_id (u2 σ 2 kn (xb true)) 1).symm
  · skip
    refine hv_iconst C dX12_image_9 ?_
    exact mo_zret (Qc := fun _ _ _ _ => True) C hr hlk ((xb_f (decide_eq_false (by omega))).symm) (by first | exact if_n (by omega) rfl | (refine if_p (by omega) ?_; have e5 : i = 2260 := (by omega); subst e5; simp only [Int.toNat_natCast]; exact hτ)) dX12_image_10
theorem dX12_again_0 : decode cX12_again 0 = .ok (.iload_n 1, 1) := by decide +kernel
theorem dX12_again_1 : decode cX12_again 1 = .ok (.iconst 0, 1) := by decide +kernel
theorem dX12_again_2 : decode cX12_again 2 = .ok (.iconst 2, 1) := by decide +kernel
theorem dX12_again_3 : decode cX12_again 3 = .ok (.invokestatic 59, 3) := by decide +kernel
theorem dX12_again_6 : decode cX12_again 6 = .ok (.ifCond .eq 12, 3) := by decide +kernel
theorem dX12_again_9 : decode cX12_again 9 = .ok (.aload_n 0, 1) := by decide +kernel
theorem dX12_again_10 : decode cX12_again 10 = .ok (.getfield 13, 3) := by decide +kernel
theorem dX12_again_13 : decode cX12_again 13 = .ok (.iload_n 1, 1) := by decide +kernel
theorem dX12_again_14 : decode cX12_again 14 = .ok (.baload, 1) := by decide +kernel
theorem dX12_again_15 : decode cX12_again 15 = .ok (.ifCond .ne 5, 3) := by decide +kernel
theorem dX12_again_18 : decode cX12_again 18 = .ok (.iconst 0, 1) := by decide +kernel
theorem dX12_again_19 : decode cX12_again 19 = .ok (.ireturn, 1) := by decide +kernel
theorem dX12_again_20 : decode cX12_again 20 = .ok (.iconst 0, 1) := by decide +kernel
theorem dX12_again_21 : decode cX12_again 21 = .ok (.istore_n 2, 1) := by decide +kernel
theorem dX12_again_22 : decode cX12_again 22 = .ok (.iload_n 2, 1) := by decide +kernel
theorem dX12_again_23 : decode cX12_again 23 = .ok (.sipush 2260, 3) := by decide +kernel
theorem dX12_again_26 : decode cX12_again 26 = .ok (.if_icmp .ge 29, 3) := by decide +kernel
theorem dX12_again_29 : decode cX12_again 29 = .ok (.aload_n 0, 1) := by decide +kernel
theorem dX12_again_30 : decode cX12_again 30 = .ok (.getfield 7, 3) := by decide +kernel
theorem dX12_again_33 : decode cX12_again 33 = .ok (.iload_n 2, 1) := by decide +kernel
theorem dX12_again_34 : decode cX12_again 34 = .ok (.aload_n 0, 1) := by decide +kernel
theorem dX12_again_35 : decode cX12_again 35 = .ok (.getfield 7, 3) := by decide +kernel
theorem dX12_again_38 : decode cX12_again 38 = .ok (.sipush 2260, 3) := by decide +kernel
theorem dX12_again_41 : decode cX12_again 41 = .ok (.iload_n 1, 1) := by decide +kernel
theorem dX12_again_42 : decode cX12_again 42 = .ok (.iconst 1, 1) := by decide +kernel
theorem dX12_again_43 : decode cX12_again 43 = .ok (.iadd, 1) := by decide +kernel
theorem dX12_again_44 : decode cX12_again 44 = .ok (.imul, 1) := by decide +kernel
theorem dX12_again_45 : decode cX12_again 45 = .ok (.iload_n 2, 1) := by decide +kernel
theorem dX12_again_46 : decode cX12_again 46 = .ok (.iadd, 1) := by decide +kernel
theorem dX12_again_47 : decode cX12_again 47 = .ok (.iaload, 1) := by decide +kernel
theorem dX12_again_48 : decode cX12_again 48 = .ok (.iastore, 1) := by decide +kernel
theorem dX12_again_49 : decode cX12_again 49 = .ok (.iinc 2 1, 3) := by decide +kernel
theorem dX12_again_52 : decode cX12_again 52 = .ok (.goto (-30), 3) := by decide +kernel
theorem dX12_again_55 : decode cX12_again 55 = .ok (.iconst 1, 1) := by decide +kernel
theorem dX12_again_56 : decode cX12_again 56 = .ok (.ireturn, 1) := by decide +kernel
set_option maxRecDepth 100000 in
set_option maxHeartbeats 4000000 in
theorem k_again (l : Launch) {D : va_G} {cI cZ : ClassId} {a0 : Nat} (σ : Nat → Nat → Int) (k : Int) (hσ : rg σ) (hc : cn (σ 1)) (r_k : inI k) : moM l D cI cZ a0 yX12_again cX12_again 3 (some .boolean) 1 22 [.ref a0, .int (iz k)] σ (some (.int (iz (xb (decide (((0 ≤ k ∧ k ≤ 2) ∧ ¬ σ 2 k.toNat = 0))))))) (if ((0 ≤ k ∧ k ≤ 2) ∧ ¬ σ 2 k.toNat = 0) then sA σ 1 (ag (σ 1) k.toNat 2260) else σ) := by
  refine mo_start (by decide) rfl (Nat.le_of_ble_eq_true rfl) ?_
  intro p e s m args below meth c C K hr hlk
  refine hv_iload_n C 1 1 dX12_again_0 rfl rfl ?_
  refine hv_iconst C dX12_again_1 ?_
  refine hv_iconst C dX12_again_2 ?_
  refine mo_callS [.int (iz k), .int (iz 0), .int (iz 2)] [] C K (k_isIn l σ k 0 2 (by omega) (by omega) (by omega)) ck_isIn (by decide) rfl (Nat.le_of_ble_eq_true rfl) dX12_again_3 ?_
  refine hv_dif_eq C 18 dX12_again_6 (by decide)  (fun h6 => ?_) (fun h6 => ?_)
  · skip
    refine hv_iconst C dX12_again_18 ?_
    exact mo_zret (Qc := fun _ _ _ _ => True) C hr hlk ((xb_f (decide_eq_false (by (try simp only [Int.toNat_natCast] at *); omega))).symm) (by (try simp only [Int.toNat_natCast] at *); first | exact if_n (by omega) rfl | (refine if_p (by omega) ?_; have e5 : i = 2260 := (by omega); subst e5; exact hτ)) dX12_again_19
  · skip
    obtain ⟨kn, rfl⟩ : ∃ n : Nat, k = (n : Int) := ⟨(k).toNat, by omega⟩
    (try simp only [Int.toNat_natCast] at *)
    refine hv_aload_n C 0 0 dX12_again_9 rfl rfl ?_
    refine mo_geta C K 1 2 (by decide) rfl mo_hw fl_13 rfl dX12_again_10 ?_
    refine hv_iload_n C 1 1 dX12_again_13 rfl rfl ?_
    refine mo_zald C K 2 3 kn rfl (by omega) (by omega) (by decide) dX12_again_14 ?_
    refine hv_nm (fun x1 ex1 => ?_)
    have rx1 : inI x1 := by rw [ex1]; exact hσ 2 kn
    refine hv_if_ne C 20 dX12_again_15 (by decide) (by omega) (fun h15 => ?_) (fun h15 => ?_)
    · skip
      refine hv_iconst C dX12_again_20 ?_
      refine hv_istore_n C 2 [(2, .int (iz 0)), (0, .ref a0), (1, .int (iz ((kn : Nat) : Int)))] dX12_again_21 rfl (by decide) rfl ?_
      have L22 : ∀ (f : Nat) (i : Nat) (τ : Nat → Nat → Int), 2260 - i < f → i ≤ 2260 → τ = sA σ 1 (ag (σ 1) kn i) → hvV p l e { frames := 1, cells := 0, slots := 0, locals := 22 } s m args below meth c 3 (moR a0) 0 0 (MQ below (moQ D cI cZ a0 (some (.int (iz (xb (decide (((0 ≤ ((kn : Nat) : Int) ∧ ((kn : Nat) : Int) ≤ 2) ∧ ¬ σ 2 ((kn : Nat) : Int).toNat = 0))))))) (if ((0 ≤ ((kn : Nat) : Int) ∧ ((kn : Nat) : Int) ≤ 2) ∧ ¬ σ 2 ((kn : Nat) : Int).toNat = 0) then sA σ 1 (ag (σ 1) ((kn : Nat) : Int).toNat 2260) else σ)) args s 0 0 (moR a0)) (moI D cI cZ a0 s.heap (τ)) 22 [(0, .ref a0), (1, .int (iz ((kn : Nat) : Int))), (2, .int (iz ((i : Nat) : Int)))] [] := by
        intro f
        induction f with
        | zero => intro _ _ hm; exact absurd hm (Nat.not_lt_zero _)
        | succ f ih22 =>
          intro i τ hm22 hi0 hτ
          refine hv_iload_n C 2 2 dX12_again_22 rfl rfl ?_
          refine hv_sipush C dX12_again_23 (by decide) ?_
          refine hv_icmp_ge C 55 dX12_again_26 (by decide) (by omega) (by omega) (fun h26 => ?_) (fun h26 => ?_)
          · skip
            refine hv_iconst C dX12_again_55 ?_
            exact mo_zret (Qc := fun _ _ _ _ => True) C hr hlk ((xb_t (decide_eq_true (by (try simp only [Int.toNat_natCast] at *); omega))).symm) (by (try simp only [Int.toNat_natCast] at *); first | exact if_n (by omega) rfl | (refine if_p (by omega) ?_; have e5 : i = 2260 := (by omega); subst e5; exact hτ)) dX12_again_56
          · skip
            refine hv_aload_n C 0 0 dX12_again_29 rfl rfl ?_
            refine mo_geta C K 0 1 (by decide) rfl mo_hw fl_7 rfl dX12_again_30 ?_
            refine hv_iload_n C 2 2 dX12_again_33 rfl rfl ?_
            refine hv_aload_n C 0 0 dX12_again_34 rfl rfl ?_
            refine mo_geta C K 0 1 (by decide) rfl mo_hw fl_7 rfl dX12_again_35 ?_
            refine hv_sipush C dX12_again_38 (by decide) ?_
            refine hv_iload_n C 1 1 dX12_again_41 rfl rfl ?_
            refine hv_iconst C dX12_again_42 ?_
            refine hv_iadd C dX12_again_43 ?_
            refine hv_imul C dX12_again_44 ?_
            refine hv_iload_n C 2 2 dX12_again_45 rfl rfl ?_
            refine hv_iadd C dX12_again_46 ?_
            refine mo_iald C K 1 9040 ((2260 * (kn + 1)) + i) rfl (by omega) (by omega) (by decide) dX12_again_47 ?_
            refine hv_nm (fun x2 ex2 => ?_)
            refine mo_iast C K 1 9040 i rfl (moW_set1 _ _ _ _ _ _) (by omega) (by omega) (by decide) dX12_again_48 ?_
            refine hv_iinc C 2 2 [(2, .int (iz (((i : Nat) : Int) + 1))), (0, .ref a0), (1, .int (iz ((kn : Nat) : Int)))] dX12_again_49 rfl (by decide) rfl ?_
            refine hv_goto C 22 dX12_again_52 (by decide) ?_
            refine hv_loc [1, 2, 0] [(0, .ref a0), (1, .int (iz ((kn : Nat) : Int))), (2, .int (iz (((i : Nat) : Int) + 1)))] rfl ?_
            exact ih22 (i + 1) (u2 τ 1 i x2) (by omega) (by omega) (by subst_vars; simp only [u2_sA, sA_sA, sA_at, ag])
      refine hv_loc [1, 2, 0] [(0, .ref a0), (1, .int (iz ((kn : Nat) : Int))), (2, .int (iz 0))] rfl ?_
      exact L22 _ 0 σ (Nat.lt_succ_self _) (by omega) (sA_id σ 1).symm
    · skip
      refine hv_iconst C dX12_again_18 ?_
      exact mo_zret (Qc := fun _ _ _ _ => True) C hr hlk ((xb_f (decide_eq_false (by (try simp only [Int.toNat_natCast] at *); omega))).symm) (by (try simp only [Int.toNat_natCast] at *); first | exact if_n (by omega) rfl | (refine if_p (by omega) ?_; have e5 : i = 2260 := (by omega); subst e5; exact hτ)) dX12_again_19
theorem dX12_measures_0 : decode cX12_measures 0 = .ok (.iconst 1, 1) := by decide +kernel
theorem dX12_measures_1 : decode cX12_measures 1 = .ok (.istore_n 1, 1) := by decide +kernel
theorem dX12_measures_2 : decode cX12_measures 2 = .ok (.iconst 0, 1) := by decide +kernel
theorem dX12_measures_3 : decode cX12_measures 3 = .ok (.istore_n 2, 1) := by decide +kernel
theorem dX12_measures_4 : decode cX12_measures 4 = .ok (.iload_n 2, 1) := by decide +kernel
theorem dX12_measures_5 : decode cX12_measures 5 = .ok (.aload_n 0, 1) := by decide +kernel
theorem dX12_measures_6 : decode cX12_measures 6 = .ok (.getfield 7, 3) := by decide +kernel
theorem dX12_measures_9 : decode cX12_measures 9 = .ok (.iconst 1, 1) := by decide +kernel
theorem dX12_measures_10 : decode cX12_measures 10 = .ok (.iaload, 1) := by decide +kernel
theorem dX12_measures_11 : decode cX12_measures 11 = .ok (.if_icmp .ge 47, 3) := by decide +kernel
theorem dX12_measures_14 : decode cX12_measures 14 = .ok (.iconst 0, 1) := by decide +kernel
theorem dX12_measures_15 : decode cX12_measures 15 = .ok (.istore_n 3, 1) := by decide +kernel
theorem dX12_measures_16 : decode cX12_measures 16 = .ok (.iload_n 3, 1) := by decide +kernel
theorem dX12_measures_17 : decode cX12_measures 17 = .ok (.iload_n 1, 1) := by decide +kernel
theorem dX12_measures_18 : decode cX12_measures 18 = .ok (.if_icmp .ge 30, 3) := by decide +kernel
theorem dX12_measures_21 : decode cX12_measures 21 = .ok (.aload_n 0, 1) := by decide +kernel
theorem dX12_measures_22 : decode cX12_measures 22 = .ok (.getfield 29, 3) := by decide +kernel
theorem dX12_measures_25 : decode cX12_measures 25 = .ok (.iload_n 1, 1) := by decide +kernel
theorem dX12_measures_26 : decode cX12_measures 26 = .ok (.iload_n 3, 1) := by decide +kernel
theorem dX12_measures_27 : decode cX12_measures 27 = .ok (.iadd, 1) := by decide +kernel
theorem dX12_measures_28 : decode cX12_measures 28 = .ok (.aload_n 0, 1) := by decide +kernel
theorem dX12_measures_29 : decode cX12_measures 29 = .ok (.getfield 29, 3) := by decide +kernel
theorem dX12_measures_32 : decode cX12_measures 32 = .ok (.iload_n 3, 1) := by decide +kernel
theorem dX12_measures_33 : decode cX12_measures 33 = .ok (.iaload, 1) := by decide +kernel
theorem dX12_measures_34 : decode cX12_measures 34 = .ok (.aload_n 0, 1) := by decide +kernel
theorem dX12_measures_35 : decode cX12_measures 35 = .ok (.iload_n 2, 1) := by decide +kernel
theorem dX12_measures_36 : decode cX12_measures 36 = .ok (.iconst 2, 1) := by decide +kernel
theorem dX12_measures_37 : decode cX12_measures 37 = .ok (.invokevirtual 237, 3) := by decide +kernel
theorem dX12_measures_40 : decode cX12_measures 40 = .ok (.iadd, 1) := by decide +kernel
theorem dX12_measures_41 : decode cX12_measures 41 = .ok (.iastore, 1) := by decide +kernel
theorem dX12_measures_42 : decode cX12_measures 42 = .ok (.iinc 3 1, 3) := by decide +kernel
theorem dX12_measures_45 : decode cX12_measures 45 = .ok (.goto (-29), 3) := by decide +kernel
theorem dX12_measures_48 : decode cX12_measures 48 = .ok (.iload_n 1, 1) := by decide +kernel
theorem dX12_measures_49 : decode cX12_measures 49 = .ok (.iconst 2, 1) := by decide +kernel
theorem dX12_measures_50 : decode cX12_measures 50 = .ok (.imul, 1) := by decide +kernel
theorem dX12_measures_51 : decode cX12_measures 51 = .ok (.istore_n 1, 1) := by decide +kernel
theorem dX12_measures_52 : decode cX12_measures 52 = .ok (.iinc 2 1, 3) := by decide +kernel
theorem dX12_measures_55 : decode cX12_measures 55 = .ok (.goto (-51), 3) := by decide +kernel
theorem dX12_measures_58 : decode cX12_measures 58 = .ok (.return_, 1) := by decide +kernel
set_option maxRecDepth 100000 in
set_option maxHeartbeats 4000000 in
theorem k_measures (l : Launch) {D : va_G} {cI cZ : ClassId} {a0 : Nat} (σ : Nat → Nat → Int)  (hσ : rg σ) (hc : cn (σ 1)) : moM l D cI cZ a0 yX12_measures cX12_measures 4 none 1 22 [.ref a0] σ none (sA σ 7 (ms (σ 1) (σ 7) (σ 1 1).toNat)) := by
  refine mo_start (by decide) rfl (Nat.le_of_ble_eq_true rfl) ?_
  intro p e s m args below meth c C K hr hlk
  refine hv_iconst C dX12_measures_0 ?_
  refine hv_istore_n C 1 [(1, .int (iz 1)), (0, .ref a0)] dX12_measures_1 rfl (by decide) rfl ?_
  refine hv_iconst C dX12_measures_2 ?_
  refine hv_istore_n C 2 [(2, .int (iz 0)), (1, .int (iz 1)), (0, .ref a0)] dX12_measures_3 rfl (by decide) rfl ?_
  have L4 : ∀ (f : Nat) (w : Nat) (n : Nat) (τ : Nat → Nat → Int), (σ 1 1).toNat - w < f → (w : Int) ≤ σ 1 1 → n = 2 ^ w → τ = sA σ 7 (ms (σ 1) (σ 7) w) → hvV p l e { frames := 1, cells := 0, slots := 0, locals := 22 } s m args below meth c 4 (moR a0) 0 0 (MQ below (moQ D cI cZ a0 none (sA σ 7 (ms (σ 1) (σ 7) (σ 1 1).toNat))) args s 0 0 (moR a0)) (moI D cI cZ a0 s.heap (τ)) 4 [(0, .ref a0), (1, .int (iz ((n : Nat) : Int))), (2, .int (iz ((w : Nat) : Int)))] [] := by
    intro f
    induction f with
    | zero => intro _ _ _ hm; exact absurd hm (Nat.not_lt_zero _)
    | succ f ih4 =>
      intro w n τ hm4 hw hn hτ
      have e1 : τ 1 = σ 1 := by rw [hτ]; exact sA_ne _ _ (by decide)
      have e11 : τ 1 1 = σ 1 1 := by rw [e1]
      refine hv_iload_n C 2 2 dX12_measures_4 rfl rfl ?_
      refine hv_aload_n C 0 0 dX12_measures_5 rfl rfl ?_
      refine mo_geta C K 0 1 (by decide) rfl mo_hw fl_7 rfl dX12_measures_6 ?_
      refine hv_iconst C dX12_measures_9 ?_
      refine mo_iald C K 1 9040 1 rfl (by omega) (by omega) (by decide) dX12_measures_10 ?_
      refine hv_nm (fun x1 ex1 => ?_)
      refine hv_icmp_ge C 58 dX12_measures_11 (by decide) (by omega) (by omega) (fun h11 => ?_) (fun h11 => ?_)
      · skip
        exact mo_vret (Qc := fun _ _ _ _ => True) C hr hlk (by have zq9 : (σ 1 1).toNat = w := (by omega); rw [zq9]; exact hτ) dX12_measures_58
      · skip
        have hp9 : n ≤ 2048 := by rw [hn]; exact (Nat.pow_le_pow_right (by decide) (by omega : w ≤ 11) : 2 ^ w ≤ 2 ^ 11)
        refine hv_iconst C dX12_measures_14 ?_
        refine hv_istore_n C 3 [(3, .int (iz 0)), (0, .ref a0), (1, .int (iz ((n : Nat) : Int))), (2, .int (iz ((w : Nat) : Int)))] dX12_measures_15 rfl (by decide) rfl ?_
        have L16 : ∀ (f : Nat) (set : Nat) (τ2 : Nat → Nat → Int), n - set < f → set ≤ n → τ2 = sA σ 7 (mi (ms (σ 1) (σ 7) w) n (σ 1 (30 + 4 * w + 2)) set) → hvV p l e { frames := 1, cells := 0, slots := 0, locals := 22 } s m args below meth c 4 (moR a0) 0 0 (MQ below (moQ D cI cZ a0 none (sA σ 7 (ms (σ 1) (σ 7) (σ 1 1).toNat))) args s 0 0 (moR a0)) (moI D cI cZ a0 s.heap (τ2)) 16 [(0, .ref a0), (1, .int (iz ((n : Nat) : Int))), (2, .int (iz ((w : Nat) : Int))), (3, .int (iz ((set : Nat) : Int)))] [] := by
          intro f
          induction f with
          | zero => intro _ _ hm; exact absurd hm (Nat.not_lt_zero _)
          | succ f ih16 =>
            intro set τ2 hm16 hs0 hτ2
            refine hv_iload_n C 3 3 dX12_measures_16 rfl rfl ?_
            refine hv_iload_n C 1 1 dX12_measures_17 rfl rfl ?_
            refine hv_icmp_ge C 48 dX12_measures_18 (by decide) (by omega) (by omega) (fun h18 => ?_) (fun h18 => ?_)
            · skip
              refine hv_iload_n C 1 1 dX12_measures_48 rfl rfl ?_
              refine hv_iconst C dX12_measures_49 ?_
              refine hv_imul C dX12_measures_50 ?_
              refine hv_istore_n C 1 [(1, .int (iz (((n : Nat) : Int) * 2))), (0, .ref a0), (2, .int (iz ((w : Nat) : Int))), (3, .int (iz ((set : Nat) : Int)))] dX12_measures_51 rfl (by decide) rfl ?_
              refine hv_iinc C 2 2 [(2, .int (iz (((w : Nat) : Int) + 1))), (1, .int (iz (((n : Nat) : Int) * 2))), (0, .ref a0), (3, .int (iz ((set : Nat) : Int)))] dX12_measures_52 rfl (by decide) rfl ?_
              refine hv_goto C 4 dX12_measures_55 (by decide) ?_
              refine hv_loc [2, 1, 0] [(0, .ref a0), (1, .int (iz (((n : Nat) : Int) * 2))), (2, .int (iz (((w : Nat) : Int) + 1)))] rfl ?_
              exact ih4 (w + 1) (n * 2) τ2 (by omega) (by omega) (by rw [hn, Nat.pow_succ]) (by have zs9 : set = n := (by omega); rw [hτ2, zs9, hn]; rfl)
            · skip
              refine hv_aload_n C 0 0 dX12_measures_21 rfl rfl ?_
              refine mo_geta C K 15 7 (by decide) rfl mo_hw fl_29 rfl dX12_measures_22 ?_
              refine hv_iload_n C 1 1 dX12_measures_25 rfl rfl ?_
              refine hv_iload_n C 3 3 dX12_measures_26 rfl rfl ?_
              refine hv_iadd C dX12_measures_27 ?_
              refine hv_aload_n C 0 0 dX12_measures_28 rfl rfl ?_
              refine mo_geta C K 15 7 (by decide) rfl mo_hw fl_29 rfl dX12_measures_29 ?_
              refine hv_iload_n C 3 3 dX12_measures_32 rfl rfl ?_
              refine mo_iald C K 7 4096 set rfl (by omega) (by omega) (by decide) dX12_measures_33 ?_
              refine hv_nm (fun x2 ex2 => ?_)
              refine hv_aload_n C 0 0 dX12_measures_34 rfl rfl ?_
              refine hv_iload_n C 2 2 dX12_measures_35 rfl rfl ?_
              refine hv_iconst C dX12_measures_36 ?_
              refine mo_call [.int (iz ((w : Nat) : Int)), .int (iz 2)] [.int (iz x2), .int (iz (((n : Nat) : Int) + ((set : Nat) : Int))), .ref (a0 + 7)] C K (k_wireOf l τ2 w 2 (by omega) (by omega)) ck_wireOf (by decide) rfl (Nat.le_of_ble_eq_true rfl) dX12_measures_37 ?_
              refine hv_nm (fun x3 ex3 => ?_)
              refine hv_iadd C dX12_measures_40 ?_
              refine mo_iast C K 7 4096 (n + set) rfl (moW_set7 _ _ _ _ _ _) (by omega) (by omega) (by decide) dX12_measures_41 ?_
              refine hv_iinc C 3 3 [(3, .int (iz (((set : Nat) : Int) + 1))), (0, .ref a0), (1, .int (iz ((n : Nat) : Int))), (2, .int (iz ((w : Nat) : Int)))] dX12_measures_42 rfl (by decide) rfl ?_
              refine hv_goto C 16 dX12_measures_45 (by decide) ?_
              refine hv_loc [1, 2, 3, 0] [(0, .ref a0), (1, .int (iz ((n : Nat) : Int))), (2, .int (iz ((w : Nat) : Int))), (3, .int (iz (((set : Nat) : Int) + 1)))] rfl ?_
              exact ih16 (set + 1) (u2 τ2 7 (n + set) (x2 + x3)) (by omega) (by omega) (by subst_vars; simp only [u2_sA, sA_sA, sA_at, mi]; rw [sA_ne _ _ (by decide : (1 : Nat) ≠ 7)])
        refine hv_loc [1, 2, 3, 0] [(0, .ref a0), (1, .int (iz ((n : Nat) : Int))), (2, .int (iz ((w : Nat) : Int))), (3, .int (iz 0))] rfl ?_
        exact L16 _ 0 τ (Nat.lt_succ_self _) (by omega) hτ
  refine hv_loc [2, 1, 0] [(0, .ref a0), (1, .int (iz 1)), (2, .int (iz 0))] rfl ?_
  exact L4 _ 0 1 σ (Nat.lt_succ_self _) (by omega) rfl (sA_id σ 7).symm
theorem dX12_goes_0 : decode cX12_goes 0 = .ok (.iconst 1, 1) := by decide +kernel
theorem dX12_goes_1 : decode cX12_goes 1 = .ok (.istore_n 2, 1) := by decide +kernel
theorem dX12_goes_2 : decode cX12_goes 2 = .ok (.iconst 0, 1) := by decide +kernel
theorem dX12_goes_3 : decode cX12_goes 3 = .ok (.istore_n 3, 1) := by decide +kernel
theorem dX12_goes_4 : decode cX12_goes 4 = .ok (.iload_n 3, 1) := by decide +kernel
theorem dX12_goes_5 : decode cX12_goes 5 = .ok (.iload_n 1, 1) := by decide +kernel
theorem dX12_goes_6 : decode cX12_goes 6 = .ok (.if_icmp .ge 80, 3) := by decide +kernel
theorem dX12_goes_9 : decode cX12_goes 9 = .ok (.iload_n 2, 1) := by decide +kernel
theorem dX12_goes_10 : decode cX12_goes 10 = .ok (.ifCond .eq 76, 3) := by decide +kernel
theorem dX12_goes_13 : decode cX12_goes 13 = .ok (.aload_n 0, 1) := by decide +kernel
theorem dX12_goes_14 : decode cX12_goes 14 = .ok (.getfield 53, 3) := by decide +kernel
theorem dX12_goes_17 : decode cX12_goes 17 = .ok (.iload_n 1, 1) := by decide +kernel
theorem dX12_goes_18 : decode cX12_goes 18 = .ok (.iaload, 1) := by decide +kernel
theorem dX12_goes_19 : decode cX12_goes 19 = .ok (.aload_n 0, 1) := by decide +kernel
theorem dX12_goes_20 : decode cX12_goes 20 = .ok (.getfield 53, 3) := by decide +kernel
theorem dX12_goes_23 : decode cX12_goes 23 = .ok (.iload_n 3, 1) := by decide +kernel
theorem dX12_goes_24 : decode cX12_goes 24 = .ok (.iaload, 1) := by decide +kernel
theorem dX12_goes_25 : decode cX12_goes 25 = .ok (.isub, 1) := by decide +kernel
theorem dX12_goes_26 : decode cX12_goes 26 = .ok (.istore 4, 2) := by decide +kernel
theorem dX12_goes_28 : decode cX12_goes 28 = .ok (.iload 4, 2) := by decide +kernel
theorem dX12_goes_30 : decode cX12_goes 30 = .ok (.ifCond .eq 48, 3) := by decide +kernel
theorem dX12_goes_33 : decode cX12_goes 33 = .ok (.iload 4, 2) := by decide +kernel
theorem dX12_goes_35 : decode cX12_goes 35 = .ok (.iconst 1, 1) := by decide +kernel
theorem dX12_goes_36 : decode cX12_goes 36 = .ok (.if_icmp .eq 9, 3) := by decide +kernel
theorem dX12_goes_39 : decode cX12_goes 39 = .ok (.iload 4, 2) := by decide +kernel
theorem dX12_goes_41 : decode cX12_goes 41 = .ok (.iconst (-1), 1) := by decide +kernel
theorem dX12_goes_42 : decode cX12_goes 42 = .ok (.if_icmp .ne 32, 3) := by decide +kernel
theorem dX12_goes_45 : decode cX12_goes 45 = .ok (.aload_n 0, 1) := by decide +kernel
theorem dX12_goes_46 : decode cX12_goes 46 = .ok (.getfield 7, 3) := by decide +kernel
theorem dX12_goes_49 : decode cX12_goes 49 = .ok (.sipush 750, 3) := by decide +kernel
theorem dX12_goes_52 : decode cX12_goes 52 = .ok (.bipush 7, 2) := by decide +kernel
theorem dX12_goes_54 : decode cX12_goes 54 = .ok (.iload_n 1, 1) := by decide +kernel
theorem dX12_goes_55 : decode cX12_goes 55 = .ok (.imul, 1) := by decide +kernel
theorem dX12_goes_56 : decode cX12_goes 56 = .ok (.iadd, 1) := by decide +kernel
theorem dX12_goes_57 : decode cX12_goes 57 = .ok (.iaload, 1) := by decide +kernel
theorem dX12_goes_58 : decode cX12_goes 58 = .ok (.aload_n 0, 1) := by decide +kernel
theorem dX12_goes_59 : decode cX12_goes 59 = .ok (.getfield 7, 3) := by decide +kernel
theorem dX12_goes_62 : decode cX12_goes 62 = .ok (.sipush 750, 3) := by decide +kernel
theorem dX12_goes_65 : decode cX12_goes 65 = .ok (.bipush 7, 2) := by decide +kernel
theorem dX12_goes_67 : decode cX12_goes 67 = .ok (.iload_n 3, 1) := by decide +kernel
theorem dX12_goes_68 : decode cX12_goes 68 = .ok (.imul, 1) := by decide +kernel
theorem dX12_goes_69 : decode cX12_goes 69 = .ok (.iadd, 1) := by decide +kernel
theorem dX12_goes_70 : decode cX12_goes 70 = .ok (.iaload, 1) := by decide +kernel
theorem dX12_goes_71 : decode cX12_goes 71 = .ok (.if_icmp .eq 7, 3) := by decide +kernel
theorem dX12_goes_74 : decode cX12_goes 74 = .ok (.iconst 1, 1) := by decide +kernel
theorem dX12_goes_75 : decode cX12_goes 75 = .ok (.goto 4, 3) := by decide +kernel
theorem dX12_goes_78 : decode cX12_goes 78 = .ok (.iconst 0, 1) := by decide +kernel
theorem dX12_goes_79 : decode cX12_goes 79 = .ok (.istore_n 2, 1) := by decide +kernel
theorem dX12_goes_80 : decode cX12_goes 80 = .ok (.iinc 3 1, 3) := by decide +kernel
theorem dX12_goes_83 : decode cX12_goes 83 = .ok (.goto (-79), 3) := by decide +kernel
theorem dX12_goes_86 : decode cX12_goes 86 = .ok (.iload_n 2, 1) := by decide +kernel
theorem dX12_goes_87 : decode cX12_goes 87 = .ok (.ireturn, 1) := by decide +kernel
set_option maxRecDepth 100000 in
set_option maxHeartbeats 4000000 in
theorem k_goes (l : Launch) {D : va_G} {cI cZ : ClassId} {a0 : Nat} (σ : Nat → Nat → Int) (k : Nat) (hσ : rg σ) (hc : cn (σ 1)) (hk : k < 6) (hT : ∀ j : Nat, j ≤ k → -1 ≤ σ 15 j ∧ σ 15 j ≤ 6) : moM l D cI cZ a0 yX12_goes cX12_goes 5 (some .boolean) 0 0 [.ref a0, .int (iz ((k : Nat) : Int))] σ (some (.int (iz (xb (gs (σ 1) (σ 15) k k))))) (σ) := by
  refine mo_start (by decide) rfl (Nat.le_of_ble_eq_true rfl) ?_
  intro p e s m args below meth c C K hr hlk
  refine hv_iconst C dX12_goes_0 ?_
  refine hv_istore_n C 2 [(2, .int (iz 1)), (0, .ref a0), (1, .int (iz ((k : Nat) : Int)))] dX12_goes_1 rfl (by decide) rfl ?_
  refine hv_iconst C dX12_goes_2 ?_
  refine hv_istore_n C 3 [(3, .int (iz 0)), (2, .int (iz 1)), (0, .ref a0), (1, .int (iz ((k : Nat) : Int)))] dX12_goes_3 rfl (by decide) rfl ?_
  have L4 : ∀ (f : Nat) (j : Nat) (is : Bool), k - j < f → j ≤ k → is = gs (σ 1) (σ 15) k j → hvV p l e { frames := 0, cells := 0, slots := 0, locals := 0 } s m args below meth c 5 (moR a0) 0 0 (MQ below (moQ D cI cZ a0 (some (.int (iz (xb (gs (σ 1) (σ 15) k k))))) (σ)) args s 0 0 (moR a0)) (moI D cI cZ a0 s.heap σ) 4 [(0, .ref a0), (1, .int (iz ((k : Nat) : Int))), (2, .int (iz (xb (is)))), (3, .int (iz ((j : Nat) : Int)))] [] := by
    intro f
    induction f with
    | zero => intro _ _ hm; exact absurd hm (Nat.not_lt_zero _)
    | succ f ih4 =>
      intro j is hm4 hj hb
      refine hv_iload_n C 3 3 dX12_goes_4 rfl rfl ?_
      refine hv_iload_n C 1 1 dX12_goes_5 rfl rfl ?_
      refine hv_icmp_ge C 86 dX12_goes_6 (by decide) (by omega) (by omega) (fun h6 => ?_) (fun h6 => ?_)
      · skip
        refine hv_iload_n C 2 2 dX12_goes_86 rfl rfl ?_
        exact mo_zret (Qc := fun _ _ _ _ => True) C hr hlk ((congrArg xb (by first | (have zq9 : j = k := (by omega); rw [hb, zq9]) | (rw [h10] at hb; rw [gs_f k hb.symm (by omega)]; exact h10)))) rfl dX12_goes_87
      · skip
        refine hv_iload_n C 2 2 dX12_goes_9 rfl rfl ?_
        refine hv_bif_eq C 86 dX12_goes_10 (by decide)  (fun h10 => ?_) (fun h10 => ?_)
        · skip
          refine hv_iload_n C 2 2 dX12_goes_86 rfl rfl ?_
          exact mo_zret (Qc := fun _ _ _ _ => True) C hr hlk ((congrArg xb (by first | (have zq9 : j = k := (by omega); rw [hb, zq9]) | (rw [h10] at hb; rw [gs_f k hb.symm (by omega)]; exact h10)))) rfl dX12_goes_87
        · skip
          have t1 := hT k (by omega)
          have t2 := hT j (by omega)
          refine hv_aload_n C 0 0 dX12_goes_13 rfl rfl ?_
          refine mo_geta C K 25 15 (by decide) rfl mo_hw fl_53 rfl dX12_goes_14 ?_
          refine hv_iload_n C 1 1 dX12_goes_17 rfl rfl ?_
          refine mo_iald C K 15 6 k rfl (by omega) (by omega) (by decide) dX12_goes_18 ?_
          refine hv_nm (fun x1 ex1 => ?_)
          have rx1 : inI x1 := by rw [ex1]; exact hσ 15 k
          refine hv_aload_n C 0 0 dX12_goes_19 rfl rfl ?_
          refine mo_geta C K 25 15 (by decide) rfl mo_hw fl_53 rfl dX12_goes_20 ?_
          refine hv_iload_n C 3 3 dX12_goes_23 rfl rfl ?_
          refine mo_iald C K 15 6 j rfl (by omega) (by omega) (by decide) dX12_goes_24 ?_
          refine hv_nm (fun x2 ex2 => ?_)
          have rx2 : inI x2 := by rw [ex2]; exact hσ 15 j
          refine hv_isub C dX12_goes_25 ?_
          refine hv_istore C 4 [(4, .int (iz (x1 - x2))), (0, .ref a0), (1, .int (iz ((k : Nat) : Int))), (2, .int (iz (xb (is)))), (3, .int (iz ((j : Nat) : Int)))] dX12_goes_26 (by decide) rfl ?_
          refine hv_iload C 4 0 dX12_goes_28 rfl ?_
          refine hv_if_eq C 78 dX12_goes_30 (by decide) (by omega) (fun h30 => ?_) (fun h30 => ?_)
          · skip
            refine hv_iconst C dX12_goes_78 ?_
            refine hv_istore_n C 2 [(2, .int (iz 0)), (4, .int (iz (x1 - x2))), (0, .ref a0), (1, .int (iz ((k : Nat) : Int))), (3, .int (iz ((j : Nat) : Int)))] dX12_goes_79 rfl (by decide) rfl ?_
            refine hv_iinc C 3 4 [(3, .int (iz (((j : Nat) : Int) + 1))), (2, .int (iz 0)), (4, .int (iz (x1 - x2))), (0, .ref a0), (1, .int (iz ((k : Nat) : Int)))] dX12_goes_80 rfl (by decide) rfl ?_
            refine hv_goto C 4 dX12_goes_83 (by decide) ?_
            refine hv_loc [3, 4, 1, 0] [(0, .ref a0), (1, .int (iz ((k : Nat) : Int))), (2, .int (iz 0)), (3, .int (iz (((j : Nat) : Int) + 1)))] rfl ?_
            exact ih4 (j + 1) false (by omega) (by omega) (by simp only [gs]; rw [← hb, h10]; simp only [gq, Bool.true_and]; first | exact (decide_eq_true (by omega)).symm | exact (decide_eq_false (by omega)).symm)
          · skip
            refine hv_iload C 4 0 dX12_goes_33 rfl ?_
            refine hv_iconst C dX12_goes_35 ?_
            refine hv_icmp_eq C 45 dX12_goes_36 (by decide) (by omega) (by omega) (fun h36 => ?_) (fun h36 => ?_)
            · skip
              refine hv_aload_n C 0 1 dX12_goes_45 rfl rfl ?_
              refine mo_geta C K 0 1 (by decide) rfl mo_hw fl_7 rfl dX12_goes_46 ?_
              refine hv_sipush C dX12_goes_49 (by decide) ?_
              refine hv_bipush C dX12_goes_52 (by decide) ?_
              refine hv_iload_n C 1 2 dX12_goes_54 rfl rfl ?_
              refine hv_imul C dX12_goes_55 ?_
              refine hv_iadd C dX12_goes_56 ?_
              refine mo_iald C K 1 9040 (750 + (7 * k)) rfl (by omega) (by omega) (by decide) dX12_goes_57 ?_
              refine hv_nm (fun x3 ex3 => ?_)
              have rx3 : inI x3 := by rw [ex3]; exact hσ 1 (750 + (7 * k))
              refine hv_aload_n C 0 1 dX12_goes_58 rfl rfl ?_
              refine mo_geta C K 0 1 (by decide) rfl mo_hw fl_7 rfl dX12_goes_59 ?_
              refine hv_sipush C dX12_goes_62 (by decide) ?_
              refine hv_bipush C dX12_goes_65 (by decide) ?_
              refine hv_iload_n C 3 4 dX12_goes_67 rfl rfl ?_
              refine hv_imul C dX12_goes_68 ?_
              refine hv_iadd C dX12_goes_69 ?_
              refine mo_iald C K 1 9040 (750 + (7 * j)) rfl (by omega) (by omega) (by decide) dX12_goes_70 ?_
              refine hv_nm (fun x4 ex4 => ?_)
              have rx4 : inI x4 := by rw [ex4]; exact hσ 1 (750 + (7 * j))
              refine hv_icmp_eq C 78 dX12_goes_71 (by decide) (by omega) (by omega) (fun h71 => ?_) (fun h71 => ?_)
              · skip
                refine hv_iconst C dX12_goes_78 ?_
                refine hv_istore_n C 2 [(2, .int (iz 0)), (4, .int (iz (x1 - x2))), (0, .ref a0), (1, .int (iz ((k : Nat) : Int))), (3, .int (iz ((j : Nat) : Int)))] dX12_goes_79 rfl (by decide) rfl ?_
                refine hv_iinc C 3 4 [(3, .int (iz (((j : Nat) : Int) + 1))), (2, .int (iz 0)), (4, .int (iz (x1 - x2))), (0, .ref a0), (1, .int (iz ((k : Nat) : Int)))] dX12_goes_80 rfl (by decide) rfl ?_
                refine hv_goto C 4 dX12_goes_83 (by decide) ?_
                refine hv_loc [3, 4, 1, 0] [(0, .ref a0), (1, .int (iz ((k : Nat) : Int))), (2, .int (iz 0)), (3, .int (iz (((j : Nat) : Int) + 1)))] rfl ?_
                exact ih4 (j + 1) false (by omega) (by omega) (by simp only [gs]; rw [← hb, h10]; simp only [gq, Bool.true_and]; first | exact (decide_eq_true (by omega)).symm | exact (decide_eq_false (by omega)).symm)
              · skip
                refine hv_iconst C dX12_goes_74 ?_
                refine hv_goto C 79 dX12_goes_75 (by decide) ?_
                refine hv_istore_n C 2 [(2, .int (iz 1)), (4, .int (iz (x1 - x2))), (0, .ref a0), (1, .int (iz ((k : Nat) : Int))), (3, .int (iz ((j : Nat) : Int)))] dX12_goes_79 rfl (by decide) rfl ?_
                refine hv_iinc C 3 4 [(3, .int (iz (((j : Nat) : Int) + 1))), (2, .int (iz 1)), (4, .int (iz (x1 - x2))), (0, .ref a0), (1, .int (iz ((k : Nat) : Int)))] dX12_goes_80 rfl (by decide) rfl ?_
                refine hv_goto C 4 dX12_goes_83 (by decide) ?_
                refine hv_loc [3, 4, 1, 0] [(0, .ref a0), (1, .int (iz ((k : Nat) : Int))), (2, .int (iz 1)), (3, .int (iz (((j : Nat) : Int) + 1)))] rfl ?_
                exact ih4 (j + 1) true (by omega) (by omega) (by simp only [gs]; rw [← hb, h10]; simp only [gq, Bool.true_and]; first | exact (decide_eq_true (by omega)).symm | exact (decide_eq_false (by omega)).symm)
            · skip
              refine hv_iload C 4 0 dX12_goes_39 rfl ?_
              refine hv_iconst C dX12_goes_41 ?_
              refine hv_icmp_ne C 74 dX12_goes_42 (by decide) (by omega) (by omega) (fun h42 => ?_) (fun h42 => ?_)
              · skip
                refine hv_iconst C dX12_goes_74 ?_
                refine hv_goto C 79 dX12_goes_75 (by decide) ?_
                refine hv_istore_n C 2 [(2, .int (iz 1)), (4, .int (iz (x1 - x2))), (0, .ref a0), (1, .int (iz ((k : Nat) : Int))), (3, .int (iz ((j : Nat) : Int)))] dX12_goes_79 rfl (by decide) rfl ?_
                refine hv_iinc C 3 4 [(3, .int (iz (((j : Nat) : Int) + 1))), (2, .int (iz 1)), (4, .int (iz (x1 - x2))), (0, .ref a0), (1, .int (iz ((k : Nat) : Int)))] dX12_goes_80 rfl (by decide) rfl ?_
                refine hv_goto C 4 dX12_goes_83 (by decide) ?_
                refine hv_loc [3, 4, 1, 0] [(0, .ref a0), (1, .int (iz ((k : Nat) : Int))), (2, .int (iz 1)), (3, .int (iz (((j : Nat) : Int) + 1)))] rfl ?_
                exact ih4 (j + 1) true (by omega) (by omega) (by simp only [gs]; rw [← hb, h10]; simp only [gq, Bool.true_and]; first | exact (decide_eq_true (by omega)).symm | exact (decide_eq_false (by omega)).symm)
              · skip
                refine hv_aload_n C 0 1 dX12_goes_45 rfl rfl ?_
                refine mo_geta C K 0 1 (by decide) rfl mo_hw fl_7 rfl dX12_goes_46 ?_
                refine hv_sipush C dX12_goes_49 (by decide) ?_
                refine hv_bipush C dX12_goes_52 (by decide) ?_
                refine hv_iload_n C 1 2 dX12_goes_54 rfl rfl ?_
                refine hv_imul C dX12_goes_55 ?_
                refine hv_iadd C dX12_goes_56 ?_
                refine mo_iald C K 1 9040 (750 + (7 * k)) rfl (by omega) (by omega) (by decide) dX12_goes_57 ?_
                refine hv_nm (fun x5 ex5 => ?_)
                have rx5 : inI x5 := by rw [ex5]; exact hσ 1 (750 + (7 * k))
                refine hv_aload_n C 0 1 dX12_goes_58 rfl rfl ?_
                refine mo_geta C K 0 1 (by decide) rfl mo_hw fl_7 rfl dX12_goes_59 ?_
                refine hv_sipush C dX12_goes_62 (by decide) ?_
                refine hv_bipush C dX12_goes_65 (by decide) ?_
                refine hv_iload_n C 3 4 dX12_goes_67 rfl rfl ?_
                refine hv_imul C dX12_goes_68 ?_
                refine hv_iadd C dX12_goes_69 ?_
                refine mo_iald C K 1 9040 (750 + (7 * j)) rfl (by omega) (by omega) (by decide) dX12_goes_70 ?_
                refine hv_nm (fun x6 ex6 => ?_)
                have rx6 : inI x6 := by rw [ex6]; exact hσ 1 (750 + (7 * j))
                refine hv_icmp_eq C 78 dX12_goes_71 (by decide) (by omega) (by omega) (fun h71 => ?_) (fun h71 => ?_)
                · skip
                  refine hv_iconst C dX12_goes_78 ?_
                  refine hv_istore_n C 2 [(2, .int (iz 0)), (4, .int (iz (x1 - x2))), (0, .ref a0), (1, .int (iz ((k : Nat) : Int))), (3, .int (iz ((j : Nat) : Int)))] dX12_goes_79 rfl (by decide) rfl ?_
                  refine hv_iinc C 3 4 [(3, .int (iz (((j : Nat) : Int) + 1))), (2, .int (iz 0)), (4, .int (iz (x1 - x2))), (0, .ref a0), (1, .int (iz ((k : Nat) : Int)))] dX12_goes_80 rfl (by decide) rfl ?_
                  refine hv_goto C 4 dX12_goes_83 (by decide) ?_
                  refine hv_loc [3, 4, 1, 0] [(0, .ref a0), (1, .int (iz ((k : Nat) : Int))), (2, .int (iz 0)), (3, .int (iz (((j : Nat) : Int) + 1)))] rfl ?_
                  exact ih4 (j + 1) false (by omega) (by omega) (by simp only [gs]; rw [← hb, h10]; simp only [gq, Bool.true_and]; first | exact (decide_eq_true (by omega)).symm | exact (decide_eq_false (by omega)).symm)
                · skip
                  refine hv_iconst C dX12_goes_74 ?_
                  refine hv_goto C 79 dX12_goes_75 (by decide) ?_
                  refine hv_istore_n C 2 [(2, .int (iz 1)), (4, .int (iz (x1 - x2))), (0, .ref a0), (1, .int (iz ((k : Nat) : Int))), (3, .int (iz ((j : Nat) : Int)))] dX12_goes_79 rfl (by decide) rfl ?_
                  refine hv_iinc C 3 4 [(3, .int (iz (((j : Nat) : Int) + 1))), (2, .int (iz 1)), (4, .int (iz (x1 - x2))), (0, .ref a0), (1, .int (iz ((k : Nat) : Int)))] dX12_goes_80 rfl (by decide) rfl ?_
                  refine hv_goto C 4 dX12_goes_83 (by decide) ?_
                  refine hv_loc [3, 4, 1, 0] [(0, .ref a0), (1, .int (iz ((k : Nat) : Int))), (2, .int (iz 1)), (3, .int (iz (((j : Nat) : Int) + 1)))] rfl ?_
                  exact ih4 (j + 1) true (by omega) (by omega) (by simp only [gs]; rw [← hb, h10]; simp only [gq, Bool.true_and]; first | exact (decide_eq_true (by omega)).symm | exact (decide_eq_false (by omega)).symm)
  refine hv_loc [2, 3, 1, 0] [(0, .ref a0), (1, .int (iz ((k : Nat) : Int))), (2, .int (iz 1)), (3, .int (iz 0))] rfl ?_
  exact L4 _ 0 true (Nat.lt_succ_self _) (by omega) rfl
theorem dX12_keeps_0 : decode cX12_keeps 0 = .ok (.iconst 0, 1) := by decide +kernel
theorem dX12_keeps_1 : decode cX12_keeps 1 = .ok (.istore_n 1, 1) := by decide +kernel
theorem dX12_keeps_2 : decode cX12_keeps 2 = .ok (.iconst 0, 1) := by decide +kernel
theorem dX12_keeps_3 : decode cX12_keeps 3 = .ok (.istore_n 2, 1) := by decide +kernel
theorem dX12_keeps_4 : decode cX12_keeps 4 = .ok (.iload_n 2, 1) := by decide +kernel
theorem dX12_keeps_5 : decode cX12_keeps 5 = .ok (.aload_n 0, 1) := by decide +kernel
theorem dX12_keeps_6 : decode cX12_keeps 6 = .ok (.getfield 7, 3) := by decide +kernel
theorem dX12_keeps_9 : decode cX12_keeps 9 = .ok (.bipush 7, 2) := by decide +kernel
theorem dX12_keeps_11 : decode cX12_keeps 11 = .ok (.iaload, 1) := by decide +kernel
theorem dX12_keeps_12 : decode cX12_keeps 12 = .ok (.if_icmp .ge 34, 3) := by decide +kernel
theorem dX12_keeps_15 : decode cX12_keeps 15 = .ok (.iload_n 1, 1) := by decide +kernel
theorem dX12_keeps_16 : decode cX12_keeps 16 = .ok (.aload_n 0, 1) := by decide +kernel
theorem dX12_keeps_17 : decode cX12_keeps 17 = .ok (.getfield 7, 3) := by decide +kernel
theorem dX12_keeps_20 : decode cX12_keeps 20 = .ok (.sipush 750, 3) := by decide +kernel
theorem dX12_keeps_23 : decode cX12_keeps 23 = .ok (.bipush 7, 2) := by decide +kernel
theorem dX12_keeps_25 : decode cX12_keeps 25 = .ok (.iload_n 2, 1) := by decide +kernel
theorem dX12_keeps_26 : decode cX12_keeps 26 = .ok (.imul, 1) := by decide +kernel
theorem dX12_keeps_27 : decode cX12_keeps 27 = .ok (.iadd, 1) := by decide +kernel
theorem dX12_keeps_28 : decode cX12_keeps 28 = .ok (.iconst 1, 1) := by decide +kernel
theorem dX12_keeps_29 : decode cX12_keeps 29 = .ok (.iadd, 1) := by decide +kernel
theorem dX12_keeps_30 : decode cX12_keeps 30 = .ok (.aload_n 0, 1) := by decide +kernel
theorem dX12_keeps_31 : decode cX12_keeps 31 = .ok (.getfield 53, 3) := by decide +kernel
theorem dX12_keeps_34 : decode cX12_keeps 34 = .ok (.iload_n 2, 1) := by decide +kernel
theorem dX12_keeps_35 : decode cX12_keeps 35 = .ok (.iaload, 1) := by decide +kernel
theorem dX12_keeps_36 : decode cX12_keeps 36 = .ok (.iadd, 1) := by decide +kernel
theorem dX12_keeps_37 : decode cX12_keeps 37 = .ok (.iaload, 1) := by decide +kernel
theorem dX12_keeps_38 : decode cX12_keeps 38 = .ok (.iadd, 1) := by decide +kernel
theorem dX12_keeps_39 : decode cX12_keeps 39 = .ok (.istore_n 1, 1) := by decide +kernel
theorem dX12_keeps_40 : decode cX12_keeps 40 = .ok (.iinc 2 1, 3) := by decide +kernel
theorem dX12_keeps_43 : decode cX12_keeps 43 = .ok (.goto (-39), 3) := by decide +kernel
theorem dX12_keeps_46 : decode cX12_keeps 46 = .ok (.iload_n 1, 1) := by decide +kernel
theorem dX12_keeps_47 : decode cX12_keeps 47 = .ok (.aload_n 0, 1) := by decide +kernel
theorem dX12_keeps_48 : decode cX12_keeps 48 = .ok (.getfield 288, 3) := by decide +kernel
theorem dX12_keeps_51 : decode cX12_keeps 51 = .ok (.if_icmp .gt 4, 3) := by decide +kernel
theorem dX12_keeps_54 : decode cX12_keeps 54 = .ok (.return_, 1) := by decide +kernel
theorem dX12_keeps_55 : decode cX12_keeps 55 = .ok (.aload_n 0, 1) := by decide +kernel
theorem dX12_keeps_56 : decode cX12_keeps 56 = .ok (.iload_n 1, 1) := by decide +kernel
theorem dX12_keeps_57 : decode cX12_keeps 57 = .ok (.putfield 288, 3) := by decide +kernel
theorem dX12_keeps_60 : decode cX12_keeps 60 = .ok (.iconst 0, 1) := by decide +kernel
theorem dX12_keeps_61 : decode cX12_keeps 61 = .ok (.istore_n 2, 1) := by decide +kernel
theorem dX12_keeps_62 : decode cX12_keeps 62 = .ok (.iload_n 2, 1) := by decide +kernel
theorem dX12_keeps_63 : decode cX12_keeps 63 = .ok (.aload_n 0, 1) := by decide +kernel
theorem dX12_keeps_64 : decode cX12_keeps 64 = .ok (.getfield 7, 3) := by decide +kernel
theorem dX12_keeps_67 : decode cX12_keeps 67 = .ok (.bipush 7, 2) := by decide +kernel
theorem dX12_keeps_69 : decode cX12_keeps 69 = .ok (.iaload, 1) := by decide +kernel
theorem dX12_keeps_70 : decode cX12_keeps 70 = .ok (.if_icmp .ge 21, 3) := by decide +kernel
theorem dX12_keeps_73 : decode cX12_keeps 73 = .ok (.aload_n 0, 1) := by decide +kernel
theorem dX12_keeps_74 : decode cX12_keeps 74 = .ok (.getfield 56, 3) := by decide +kernel
theorem dX12_keeps_77 : decode cX12_keeps 77 = .ok (.iload_n 2, 1) := by decide +kernel
theorem dX12_keeps_78 : decode cX12_keeps 78 = .ok (.aload_n 0, 1) := by decide +kernel
theorem dX12_keeps_79 : decode cX12_keeps 79 = .ok (.getfield 53, 3) := by decide +kernel
theorem dX12_keeps_82 : decode cX12_keeps 82 = .ok (.iload_n 2, 1) := by decide +kernel
theorem dX12_keeps_83 : decode cX12_keeps 83 = .ok (.iaload, 1) := by decide +kernel
theorem dX12_keeps_84 : decode cX12_keeps 84 = .ok (.iastore, 1) := by decide +kernel
theorem dX12_keeps_85 : decode cX12_keeps 85 = .ok (.iinc 2 1, 3) := by decide +kernel
theorem dX12_keeps_88 : decode cX12_keeps 88 = .ok (.goto (-26), 3) := by decide +kernel
theorem dX12_keeps_91 : decode cX12_keeps 91 = .ok (.return_, 1) := by decide +kernel
set_option maxRecDepth 100000 in
set_option maxHeartbeats 4000000 in
theorem k_keeps (l : Launch) {D : va_G} {cI cZ : ClassId} {a0 : Nat} (σ : Nat → Nat → Int)  (hσ : rg σ) (hc : cn (σ 1)) (hp : piI (σ 1)) (hT : ∀ j : Nat, (j : Int) < σ 1 7 → 0 ≤ σ 15 j ∧ σ 15 j ≤ 5) : moM l D cI cZ a0 yX12_keeps cX12_keeps 3 none 0 0 [.ref a0] σ none (if ks (σ 1) (σ 15) (σ 1 7).toNat ≤ σ 0 27 then σ else sA (u2 σ 0 27 (ks (σ 1) (σ 15) (σ 1 7).toNat)) 16 (kc (σ 16) (σ 15) (σ 1 7).toNat)) := by
  refine mo_start (by decide) rfl (Nat.le_of_ble_eq_true rfl) ?_
  intro p e s m args below meth c C K hr hlk
  refine hv_iconst C dX12_keeps_0 ?_
  refine hv_istore_n C 1 [(1, .int (iz 0)), (0, .ref a0)] dX12_keeps_1 rfl (by decide) rfl ?_
  refine hv_iconst C dX12_keeps_2 ?_
  refine hv_istore_n C 2 [(2, .int (iz 0)), (1, .int (iz 0)), (0, .ref a0)] dX12_keeps_3 rfl (by decide) rfl ?_
  have L4 : ∀ (f : Nat) (k : Nat) (sum : Int), (σ 1 7).toNat - k < f → (k : Int) ≤ σ 1 7 → sum = ks (σ 1) (σ 15) k → 0 ≤ sum ∧ sum ≤ 9999 * (k : Int) → hvV p l e { frames := 0, cells := 0, slots := 0, locals := 0 } s m args below meth c 3 (moR a0) 0 0 (MQ below (moQ D cI cZ a0 none (if ks (σ 1) (σ 15) (σ 1 7).toNat ≤ σ 0 27 then σ else sA (u2 σ 0 27 (ks (σ 1) (σ 15) (σ 1 7).toNat)) 16 (kc (σ 16) (σ 15) (σ 1 7).toNat))) args s 0 0 (moR a0)) (moI D cI cZ a0 s.heap σ) 4 [(0, .ref a0), (1, .int (iz sum)), (2, .int (iz ((k : Nat) : Int)))] [] := by
    intro f
    induction f with
    | zero => intro _ _ hm; exact absurd hm (Nat.not_lt_zero _)
    | succ f ih4 =>
      intro k sum hm4 hk hs1 hs3
      refine hv_iload_n C 2 2 dX12_keeps_4 rfl rfl ?_
      refine hv_aload_n C 0 0 dX12_keeps_5 rfl rfl ?_
      refine mo_geta C K 0 1 (by decide) rfl mo_hw fl_7 rfl dX12_keeps_6 ?_
      refine hv_bipush C dX12_keeps_9 (by decide) ?_
      refine mo_iald C K 1 9040 7 rfl (by omega) (by omega) (by decide) dX12_keeps_11 ?_
      refine hv_nm (fun x1 ex1 => ?_)
      have rx1 : inI x1 := by rw [ex1]; exact hσ 1 7
      refine hv_icmp_ge C 46 dX12_keeps_12 (by decide) (by omega) (by omega) (fun h12 => ?_) (fun h12 => ?_)
      · skip
        refine hv_iload_n C 1 1 dX12_keeps_46 rfl rfl ?_
        refine hv_aload_n C 0 0 dX12_keeps_47 rfl rfl ?_
        refine mo_geti C K (x := σ 0 27) 27 (by decide) rfl mo_hw fl_288 rfl dX12_keeps_48 ?_
        refine hv_nm (fun x2 ex2 => ?_)
        have rx2 : inI x2 := by rw [ex2]; exact hσ 0 27
        refine hv_icmp_gt C 55 dX12_keeps_51 (by decide) (by omega) (by omega) (fun h51 => ?_) (fun h51 => ?_)
        · skip
          refine hv_aload_n C 0 0 dX12_keeps_55 rfl rfl ?_
          refine hv_iload_n C 1 1 dX12_keeps_56 rfl rfl ?_
          refine mo_puti C K (σ2 := u2 σ 0 27 sum) 27 (by decide) rfl mo_hw fl_288 rfl rfl (ty := .int) (by decide +kernel) rfl rfl dX12_keeps_57 ?_
          refine hv_iconst C dX12_keeps_60 ?_
          refine hv_istore_n C 2 [(2, .int (iz 0)), (0, .ref a0), (1, .int (iz sum))] dX12_keeps_61 rfl (by decide) rfl ?_
          have L62 : ∀ (f : Nat) (k2 : Nat) (τ : Nat → Nat → Int), (σ 1 7).toNat - k2 < f → (k2 : Int) ≤ σ 1 7 → τ = sA (u2 σ 0 27 sum) 16 (kc (σ 16) (σ 15) k2) → hvV p l e { frames := 0, cells := 0, slots := 0, locals := 0 } s m args below meth c 3 (moR a0) 0 0 (MQ below (moQ D cI cZ a0 none (if ks (σ 1) (σ 15) (σ 1 7).toNat ≤ σ 0 27 then σ else sA (u2 σ 0 27 (ks (σ 1) (σ 15) (σ 1 7).toNat)) 16 (kc (σ 16) (σ 15) (σ 1 7).toNat))) args s 0 0 (moR a0)) (moI D cI cZ a0 s.heap (τ)) 62 [(0, .ref a0), (1, .int (iz sum)), (2, .int (iz ((k2 : Nat) : Int)))] [] := by
            intro f
            induction f with
            | zero => intro _ _ hm; exact absurd hm (Nat.not_lt_zero _)
            | succ f ih62 =>
              intro k2 τ hm62 hk2 hτ
              have e1 : τ 1 7 = σ 1 7 := by rw [hτ]; rfl
              refine hv_iload_n C 2 2 dX12_keeps_62 rfl rfl ?_
              refine hv_aload_n C 0 0 dX12_keeps_63 rfl rfl ?_
              refine mo_geta C K 0 1 (by decide) rfl mo_hw fl_7 rfl dX12_keeps_64 ?_
              refine hv_bipush C dX12_keeps_67 (by decide) ?_
              refine mo_iald C K 1 9040 7 rfl (by omega) (by omega) (by decide) dX12_keeps_69 ?_
              refine hv_nm (fun x3 ex3 => ?_)
              refine hv_icmp_ge C 91 dX12_keeps_70 (by decide) (by omega) (by omega) (fun h70 => ?_) (fun h70 => ?_)
              · skip
                exact mo_vret (Qc := fun _ _ _ _ => True) C hr hlk (by have zq9 : (σ 1 7).toNat = k := (by omega); rw [zq9, ← hs1]; first | exact if_p (by omega) rfl | (refine if_n (by omega) ?_; have zq8 : k2 = k := (by omega); rw [← zq8]; exact hτ)) dX12_keeps_91
              · skip
                refine hv_aload_n C 0 0 dX12_keeps_73 rfl rfl ?_
                refine mo_geta C K 26 16 (by decide) rfl mo_hw fl_56 rfl dX12_keeps_74 ?_
                refine hv_iload_n C 2 2 dX12_keeps_77 rfl rfl ?_
                refine hv_aload_n C 0 0 dX12_keeps_78 rfl rfl ?_
                refine mo_geta C K 25 15 (by decide) rfl mo_hw fl_53 rfl dX12_keeps_79 ?_
                refine hv_iload_n C 2 2 dX12_keeps_82 rfl rfl ?_
                refine mo_iald C K 15 6 k2 rfl (by omega) (by omega) (by decide) dX12_keeps_83 ?_
                refine hv_nm (fun x4 ex4 => ?_)
                refine mo_iast C K 16 6 k2 rfl (moW_set16 _ _ _ _ _ _) (by omega) (by omega) (by decide) dX12_keeps_84 ?_
                refine hv_iinc C 2 2 [(2, .int (iz (((k2 : Nat) : Int) + 1))), (0, .ref a0), (1, .int (iz sum))] dX12_keeps_85 rfl (by decide) rfl ?_
                refine hv_goto C 62 dX12_keeps_88 (by decide) ?_
                refine hv_loc [1, 2, 0] [(0, .ref a0), (1, .int (iz sum)), (2, .int (iz (((k2 : Nat) : Int) + 1)))] rfl ?_
                exact ih62 (k2 + 1) (u2 τ 16 k2 x4) (by omega) (by omega) (by subst_vars; simp only [u2_sA, sA_sA, sA_at, kc]; rfl)
          refine hv_loc [1, 2, 0] [(0, .ref a0), (1, .int (iz sum)), (2, .int (iz 0))] rfl ?_
          exact L62 _ 0 (u2 σ 0 27 sum) (Nat.lt_succ_self _) (by omega) (sA_id (u2 σ 0 27 sum) 16).symm
        · skip
          exact mo_vret (Qc := fun _ _ _ _ => True) C hr hlk (by have zq9 : (σ 1 7).toNat = k := (by omega); rw [zq9, ← hs1]; first | exact if_p (by omega) rfl | (refine if_n (by omega) ?_; have zq8 : k2 = k := (by omega); rw [← zq8]; exact hτ)) dX12_keeps_54
      · skip
        have t1 := hT k (by omega)
        have t3 := (hp k (by omega)).2
        refine hv_iload_n C 1 1 dX12_keeps_15 rfl rfl ?_
        refine hv_aload_n C 0 0 dX12_keeps_16 rfl rfl ?_
        refine mo_geta C K 0 1 (by decide) rfl mo_hw fl_7 rfl dX12_keeps_17 ?_
        refine hv_sipush C dX12_keeps_20 (by decide) ?_
        refine hv_bipush C dX12_keeps_23 (by decide) ?_
        refine hv_iload_n C 2 2 dX12_keeps_25 rfl rfl ?_
        refine hv_imul C dX12_keeps_26 ?_
        refine hv_iadd C dX12_keeps_27 ?_
        refine hv_iconst C dX12_keeps_28 ?_
        refine hv_iadd C dX12_keeps_29 ?_
        refine hv_aload_n C 0 0 dX12_keeps_30 rfl rfl ?_
        refine mo_geta C K 25 15 (by decide) rfl mo_hw fl_53 rfl dX12_keeps_31 ?_
        refine hv_iload_n C 2 2 dX12_keeps_34 rfl rfl ?_
        refine mo_iald C K 15 6 k rfl (by omega) (by omega) (by decide) dX12_keeps_35 ?_
        refine hv_nm (fun x5 ex5 => ?_)
        have rx5 : inI x5 := by rw [ex5]; exact hσ 15 k
        obtain ⟨tn9, rfl⟩ : ∃ n : Nat, x5 = (n : Int) := ⟨(x5).toNat, by omega⟩
        have t4 := t3 tn9 (by omega)
        have zt9 : (σ 15 k).toNat = tn9 := by omega
        refine hv_iadd C dX12_keeps_36 ?_
        refine mo_iald C K 1 9040 (((750 + (7 * k)) + 1) + tn9) rfl (by omega) (by omega) (by decide) dX12_keeps_37 ?_
        refine hv_nm (fun x6 ex6 => ?_)
        have rx6 : inI x6 := by rw [ex6]; exact hσ 1 (((750 + (7 * k)) + 1) + tn9)
        refine hv_iadd C dX12_keeps_38 ?_
        refine hv_istore_n C 1 [(1, .int (iz (sum + x6))), (0, .ref a0), (2, .int (iz ((k : Nat) : Int)))] dX12_keeps_39 rfl (by decide) rfl ?_
        refine hv_iinc C 2 2 [(2, .int (iz (((k : Nat) : Int) + 1))), (1, .int (iz (sum + x6))), (0, .ref a0)] dX12_keeps_40 rfl (by decide) rfl ?_
        refine hv_goto C 4 dX12_keeps_43 (by decide) ?_
        refine hv_loc [2, 1, 0] [(0, .ref a0), (1, .int (iz (sum + x6))), (2, .int (iz (((k : Nat) : Int) + 1)))] rfl ?_
        exact ih4 (k + 1) (sum + x6) (by omega) (by omega) (by simp only [ks]; rw [zt9]; omega) (by omega)
  refine hv_loc [2, 1, 0] [(0, .ref a0), (1, .int (iz 0)), (2, .int (iz 0))] rfl ?_
  exact L4 _ 0 0 (Nat.lt_succ_self _) (by omega) rfl (by omega)
