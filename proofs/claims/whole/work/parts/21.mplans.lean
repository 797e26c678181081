/-- the search for a plan, step by step -/
def pl9 (A : Nat → Int) : Nat → Int → (Nat → Int) → (Nat → Int) → Int → Int × (Nat → Int) × (Nat → Int)
  | 0, _, T, G, tot => (tot, G, T)
  | f + 1, k, T, G, tot =>
    if k < 0 then (tot, G, T)
    else if T k.toNat + 1 = 6 then pl9 A f (k + -1) (ua T k.toNat (T k.toNat + 1)) G tot
    else if gs A (ua T k.toNat (T k.toNat + 1)) k.toNat k.toNat = false then pl9 A f k (ua T k.toNat (T k.toNat + 1)) G tot
    else if k = A 7 - 1 then pl9 A f k (ua T k.toNat (T k.toNat + 1)) (if ks A (ua T k.toNat (T k.toNat + 1)) (A 7).toNat ≤ tot then G else kc G (ua T k.toNat (T k.toNat + 1)) (A 7).toNat) (if ks A (ua T k.toNat (T k.toNat + 1)) (A 7).toNat ≤ tot then tot else ks A (ua T k.toNat (T k.toNat + 1)) (A 7).toNat)
    else pl9 A f (k + 1) (ua (ua T k.toNat (T k.toNat + 1)) (k.toNat + 1) (-1)) G tot
def pM (k : Int) (T : Nat → Int) : Int := (if 0 ≤ k then (6 - T 0) * 32768 else 0) + (if 1 ≤ k then (6 - T 1) * 4096 else 0) + (if 2 ≤ k then (6 - T 2) * 512 else 0) + (if 3 ≤ k then (6 - T 3) * 64 else 0) + (if 4 ≤ k then (6 - T 4) * 8 else 0) + (if 5 ≤ k then (6 - T 5) * 1 else 0)
theorem pM_a {k : Nat} (h : k ≤ 5) (T : Nat → Int) : pM (k : Int) (ua T k (T k + 1)) + 1 ≤ pM (k : Int) T := by
  rcases (by omega : k = 0 ∨ k = 1 ∨ k = 2 ∨ k = 3 ∨ k = 4 ∨ k = 5) with q | q | q | q | q | q <;> subst q <;> simp [pM, ua] <;> omega
theorem pM_b {k : Nat} (h : k ≤ 5) (T : Nat → Int) (e : T k + 1 = 6) : pM ((k : Int) + -1) (ua T k (T k + 1)) + 1 ≤ pM (k : Int) T := by
  rcases (by omega : k = 0 ∨ k = 1 ∨ k = 2 ∨ k = 3 ∨ k = 4 ∨ k = 5) with q | q | q | q | q | q <;> subst q <;> simp [pM, ua] <;> omega
theorem pM_c {k : Nat} (h : k ≤ 4) (T : Nat → Int) : pM ((k : Int) + 1) (ua (ua T k (T k + 1)) (k + 1) (-1)) + 1 ≤ pM (k : Int) T := by
  rcases (by omega : k = 0 ∨ k = 1 ∨ k = 2 ∨ k = 3 ∨ k = 4) with q | q | q | q | q <;> subst q <;> simp [pM, ua] <;> omega
theorem pM_0 {k : Int} {T : Nat → Int} (h : ∀ j : Nat, (j : Int) ≤ k → T j ≤ 6) : 0 ≤ pM k T := by
  have h0 := h 0; have h1 := h 1; have h2 := h 2; have h3 := h 3; have h4 := h 4; have h5 := h 5
  unfold pM
  repeat' split
  all_goals omega
theorem kp_eq (σ : Nat → Nat → Int) (tot : Int) (T G KC : Nat → Int) (KS : Int) : (if KS ≤ tot then sA (sA (sA σ 0 (ua (σ 0) 27 tot)) 15 T) 16 G else sA (u2 (sA (sA (sA σ 0 (ua (σ 0) 27 tot)) 15 T) 16 G) 0 27 KS) 16 KC) = sA (sA (sA σ 0 (ua (σ 0) 27 (if KS ≤ tot then tot else KS))) 15 T) 16 (if KS ≤ tot then G else KC) := by
  by_cases h : KS ≤ tot
  · rw [if_pos h, if_pos h, if_pos h]
  · rw [if_neg h, if_neg h, if_neg h, u2_sA, sA_comm (j := 16) (k := 0) (by decide), sA_comm (j := 15) (k := 0) (by decide), sA_sA, sA_sA]
    have e : (sA (sA (sA σ 0 (ua (σ 0) 27 tot)) 15 T) 16 G) 0 = ua (σ 0) 27 tot := rfl
    rw [e, ua_ua]
def plF : Nat := 2000000
def plR (A T0 G0 : Nat → Int) : Int × (Nat → Int) × (Nat → Int) := if A 7 = 0 then (0, G0, T0) else pl9 A plF 0 T0 G0 (-1)
theorem ks_rng {A T : Nat → Int} (hp : piI A) {N : Nat} (hT : ∀ j : Nat, (j : Int) < A 7 → 0 ≤ T j ∧ T j ≤ 5) (hN : (N : Int) ≤ A 7 ∧ N ≤ 6) : 0 ≤ ks A T N ∧ ks A T N ≤ 59994 := by
  have h : ∀ n : Nat, n ≤ N → 0 ≤ ks A T n ∧ ks A T n ≤ 9999 * (n : Int) := by
    intro n
    induction n with
    | zero => intro _; simp [ks]
    | succ n ih =>
      intro q
      have i1 := ih (by omega)
      have t1 := hT n (by omega)
      have t2 := (hp n (by omega)).2 (T n).toNat (by omega)
      unfold ks
      omega
  have := h N (Nat.le_refl N)
  omega
theorem kc_in {G T : Nat → Int} (hG : ∀ j, inI (G j)) (hT : ∀ j, inI (T j)) : ∀ n j, inI (kc G T n j)
  | 0, j => hG j
  | n + 1, j => in_ua (kc_in hG hT n) (hT n) j
theorem pl9_x {A T G : Nat → Int} {k tot : Int} (h : k < 0) : ∀ f, pl9 A f k T G tot = (tot, G, T)
  | 0 => rfl
  | f + 1 => by unfold pl9; rw [if_pos h]

theorem dX12_plans_0 : decode cX12_plans 0 = .ok (.aload_n 0, 1) := by decide +kernel
theorem dX12_plans_1 : decode cX12_plans 1 = .ok (.iconst (-1), 1) := by decide +kernel
theorem dX12_plans_2 : decode cX12_plans 2 = .ok (.putfield 288, 3) := by decide +kernel
theorem dX12_plans_5 : decode cX12_plans 5 = .ok (.iconst 0, 1) := by decide +kernel
theorem dX12_plans_6 : decode cX12_plans 6 = .ok (.istore_n 1, 1) := by decide +kernel
theorem dX12_plans_7 : decode cX12_plans 7 = .ok (.aload_n 0, 1) := by decide +kernel
theorem dX12_plans_8 : decode cX12_plans 8 = .ok (.getfield 53, 3) := by decide +kernel
theorem dX12_plans_11 : decode cX12_plans 11 = .ok (.iconst 0, 1) := by decide +kernel
theorem dX12_plans_12 : decode cX12_plans 12 = .ok (.iconst (-1), 1) := by decide +kernel
theorem dX12_plans_13 : decode cX12_plans 13 = .ok (.iastore, 1) := by decide +kernel
theorem dX12_plans_14 : decode cX12_plans 14 = .ok (.aload_n 0, 1) := by decide +kernel
theorem dX12_plans_15 : decode cX12_plans 15 = .ok (.getfield 7, 3) := by decide +kernel
theorem dX12_plans_18 : decode cX12_plans 18 = .ok (.bipush 7, 2) := by decide +kernel
theorem dX12_plans_20 : decode cX12_plans 20 = .ok (.iaload, 1) := by decide +kernel
theorem dX12_plans_21 : decode cX12_plans 21 = .ok (.ifCond .ne 8, 3) := by decide +kernel
theorem dX12_plans_24 : decode cX12_plans 24 = .ok (.aload_n 0, 1) := by decide +kernel
theorem dX12_plans_25 : decode cX12_plans 25 = .ok (.iconst 0, 1) := by decide +kernel
theorem dX12_plans_26 : decode cX12_plans 26 = .ok (.putfield 288, 3) := by decide +kernel
theorem dX12_plans_29 : decode cX12_plans 29 = .ok (.iload_n 1, 1) := by decide +kernel
theorem dX12_plans_30 : decode cX12_plans 30 = .ok (.ifCond .lt 81, 3) := by decide +kernel
theorem dX12_plans_33 : decode cX12_plans 33 = .ok (.aload_n 0, 1) := by decide +kernel
theorem dX12_plans_34 : decode cX12_plans 34 = .ok (.getfield 7, 3) := by decide +kernel
theorem dX12_plans_37 : decode cX12_plans 37 = .ok (.bipush 7, 2) := by decide +kernel
theorem dX12_plans_39 : decode cX12_plans 39 = .ok (.iaload, 1) := by decide +kernel
theorem dX12_plans_40 : decode cX12_plans 40 = .ok (.ifCond .le 71, 3) := by decide +kernel
theorem dX12_plans_43 : decode cX12_plans 43 = .ok (.aload_n 0, 1) := by decide +kernel
theorem dX12_plans_44 : decode cX12_plans 44 = .ok (.getfield 53, 3) := by decide +kernel
theorem dX12_plans_47 : decode cX12_plans 47 = .ok (.iload_n 1, 1) := by decide +kernel
theorem dX12_plans_48 : decode cX12_plans 48 = .ok (.dup2, 1) := by decide +kernel
theorem dX12_plans_49 : decode cX12_plans 49 = .ok (.iaload, 1) := by decide +kernel
theorem dX12_plans_50 : decode cX12_plans 50 = .ok (.iconst 1, 1) := by decide +kernel
theorem dX12_plans_51 : decode cX12_plans 51 = .ok (.iadd, 1) := by decide +kernel
theorem dX12_plans_52 : decode cX12_plans 52 = .ok (.iastore, 1) := by decide +kernel
theorem dX12_plans_53 : decode cX12_plans 53 = .ok (.aload_n 0, 1) := by decide +kernel
theorem dX12_plans_54 : decode cX12_plans 54 = .ok (.getfield 53, 3) := by decide +kernel
theorem dX12_plans_57 : decode cX12_plans 57 = .ok (.iload_n 1, 1) := by decide +kernel
theorem dX12_plans_58 : decode cX12_plans 58 = .ok (.iaload, 1) := by decide +kernel
theorem dX12_plans_59 : decode cX12_plans 59 = .ok (.bipush 6, 2) := by decide +kernel
theorem dX12_plans_61 : decode cX12_plans 61 = .ok (.if_icmp .ne 9, 3) := by decide +kernel
theorem dX12_plans_64 : decode cX12_plans 64 = .ok (.iinc 1 (-1), 3) := by decide +kernel
theorem dX12_plans_67 : decode cX12_plans 67 = .ok (.goto (-38), 3) := by decide +kernel
theorem dX12_plans_70 : decode cX12_plans 70 = .ok (.aload_n 0, 1) := by decide +kernel
theorem dX12_plans_71 : decode cX12_plans 71 = .ok (.iload_n 1, 1) := by decide +kernel
theorem dX12_plans_72 : decode cX12_plans 72 = .ok (.invokevirtual 291, 3) := by decide +kernel
theorem dX12_plans_75 : decode cX12_plans 75 = .ok (.ifCond .eq (-46), 3) := by decide +kernel
theorem dX12_plans_78 : decode cX12_plans 78 = .ok (.iload_n 1, 1) := by decide +kernel
theorem dX12_plans_79 : decode cX12_plans 79 = .ok (.aload_n 0, 1) := by decide +kernel
theorem dX12_plans_80 : decode cX12_plans 80 = .ok (.getfield 7, 3) := by decide +kernel
theorem dX12_plans_83 : decode cX12_plans 83 = .ok (.bipush 7, 2) := by decide +kernel
theorem dX12_plans_85 : decode cX12_plans 85 = .ok (.iaload, 1) := by decide +kernel
theorem dX12_plans_86 : decode cX12_plans 86 = .ok (.iconst 1, 1) := by decide +kernel
theorem dX12_plans_87 : decode cX12_plans 87 = .ok (.isub, 1) := by decide +kernel
theorem dX12_plans_88 : decode cX12_plans 88 = .ok (.if_icmp .ne 10, 3) := by decide +kernel
theorem dX12_plans_91 : decode cX12_plans 91 = .ok (.aload_n 0, 1) := by decide +kernel
theorem dX12_plans_92 : decode cX12_plans 92 = .ok (.invokevirtual 294, 3) := by decide +kernel
theorem dX12_plans_95 : decode cX12_plans 95 = .ok (.goto (-66), 3) := by decide +kernel
theorem dX12_plans_98 : decode cX12_plans 98 = .ok (.iinc 1 1, 3) := by decide +kernel
theorem dX12_plans_101 : decode cX12_plans 101 = .ok (.aload_n 0, 1) := by decide +kernel
theorem dX12_plans_102 : decode cX12_plans 102 = .ok (.getfield 53, 3) := by decide +kernel
theorem dX12_plans_105 : decode cX12_plans 105 = .ok (.iload_n 1, 1) := by decide +kernel
theorem dX12_plans_106 : decode cX12_plans 106 = .ok (.iconst (-1), 1) := by decide +kernel
theorem dX12_plans_107 : decode cX12_plans 107 = .ok (.iastore, 1) := by decide +kernel
theorem dX12_plans_108 : decode cX12_plans 108 = .ok (.goto (-79), 3) := by decide +kernel
theorem dX12_plans_111 : decode cX12_plans 111 = .ok (.return_, 1) := by decide +kernel
set_option maxRecDepth 100000 in
set_option maxHeartbeats 4000000 in
theorem k_plans (l : Launch) {D : va_G} {cI cZ : ClassId} {a0 : Nat} (σ : Nat → Nat → Int)  (hσ : rg σ) (hc : cn (σ 1)) (hp : piI (σ 1)) : moM l D cI cZ a0 yX12_plans cX12_plans 2 none 1 24 [.ref a0] σ none (sA (sA (sA σ 0 (ua (σ 0) 27 (plR (σ 1) (ua (σ 15) 0 (-1)) (σ 16)).1)) 15 (plR (σ 1) (ua (σ 15) 0 (-1)) (σ 16)).2.2) 16 (plR (σ 1) (ua (σ 15) 0 (-1)) (σ 16)).2.1) := by
  refine mo_start (by decide) rfl (Nat.le_of_ble_eq_true rfl) ?_
  intro p e s m args below meth c C K hr hlk
  refine hv_aload_n C 0 0 dX12_plans_0 rfl rfl ?_
  refine hv_iconst C dX12_plans_1 ?_
  refine mo_puti C K (σ2 := u2 σ 0 27 (-1)) 27 (by decide) rfl mo_hw fl_288 rfl rfl (ty := .int) (by decide +kernel) rfl rfl dX12_plans_2 ?_
  refine mo_st (σ2 := sA σ 0 (ua (σ 0) 27 (-1))) (by rw [u2_sA]; first | done | rfl) ?_
  refine hv_iconst C dX12_plans_5 ?_
  refine hv_istore_n C 1 [(1, .int (iz 0)), (0, .ref a0)] dX12_plans_6 rfl (by decide) rfl ?_
  refine hv_aload_n C 0 1 dX12_plans_7 rfl rfl ?_
  refine mo_geta C K 25 15 (by decide) rfl mo_hw fl_53 rfl dX12_plans_8 ?_
  refine hv_iconst C dX12_plans_11 ?_
  refine hv_iconst C dX12_plans_12 ?_
  refine mo_iast C K 15 6 0 rfl (moW_set15 _ _ _ _ _ _) (by omega) (by omega) (by decide) dX12_plans_13 ?_
  refine mo_st (σ2 := sA (sA σ 0 (ua (σ 0) 27 (-1))) 15 (ua (σ 15) 0 (-1))) (by rw [u2_sA]; first | done | rfl) ?_
  refine hv_aload_n C 0 1 dX12_plans_14 rfl rfl ?_
  refine mo_geta C K 0 1 (by decide) rfl mo_hw fl_7 rfl dX12_plans_15 ?_
  refine hv_bipush C dX12_plans_18 (by decide) ?_
  refine mo_iald C K 1 9040 7 rfl (by omega) (by omega) (by decide) dX12_plans_20 ?_
  refine hv_as (σ 1 7) rfl ?_
  refine hv_nm (fun x1 ex1 => ?_)
  have rx1 : inI x1 := by rw [ex1]; exact hσ 1 7
  refine hv_if_ne C 29 dX12_plans_21 (by decide) (by omega) (fun h21 => ?_) (fun h21 => ?_)
  · skip
    have L29 : ∀ (f : Nat) (k : Int) (T : Nat → Int) (G : Nat → Int) (tot : Int) (g : Nat), g < f → (-1 ≤ k ∧ k ≤ 5 ∧ (0 < σ 1 7 → k ≤ σ 1 7 - 1)) → (∀ j : Nat, (j : Int) ≤ k → -1 ≤ T j ∧ T j ≤ 5) → (∀ j : Nat, (j : Int) < k → 0 ≤ T j) → (∀ j, inI (T j)) → (∀ j, inI (G j)) → (-1 ≤ tot ∧ tot ≤ 59994) → (0 < σ 1 7 → pM k T < (g : Int)) → (0 < σ 1 7 → pl9 (σ 1) g k T G tot = pl9 (σ 1) plF 0 (ua (σ 15) 0 (-1)) (σ 16) (-1)) → (σ 1 7 = 0 → tot = 0 ∧ G = (σ 16) ∧ T = (ua (σ 15) 0 (-1))) → hvV p l e { frames := 1, cells := 0, slots := 0, locals := 24 } s m args below meth c 2 (moR a0) 0 0 (MQ below (moQ D cI cZ a0 none (sA (sA (sA σ 0 (ua (σ 0) 27 (plR (σ 1) (ua (σ 15) 0 (-1)) (σ 16)).1)) 15 (plR (σ 1) (ua (σ 15) 0 (-1)) (σ 16)).2.2) 16 (plR (σ 1) (ua (σ 15) 0 (-1)) (σ 16)).2.1)) args s 0 0 (moR a0)) (moI D cI cZ a0 s.heap (sA (sA (sA σ 0 (ua (σ 0) 27 tot)) 15 T) 16 G)) 29 [(0, .ref a0), (1, .int (iz k))] [] := by
      intro f
      induction f with
      | zero => intro _ _ _ _ _ hm; exact absurd hm (Nat.not_lt_zero _)
      | succ f ih29 =>
        intro k T G tot g hm29 hk hT hT0 hTr hGr ht hM hr9 h00
        refine hv_iload_n C 1 1 dX12_plans_29 rfl rfl ?_
        refine hv_if_lt C 111 dX12_plans_30 (by decide) (by omega) (fun h30 => ?_) (fun h30 => ?_)
        · skip
          exact mo_vret (Qc := fun _ _ _ _ => True) C hr hlk (by have zr : (plR (σ 1) (ua (σ 15) 0 (-1)) (σ 16)) = (tot, G, T) := (by unfold plR; first | (rw [if_neg (by omega), ← hr9 (by omega)]; exact pl9_x (by omega) _) | (rw [if_pos (by omega)]; have z0 := h00 (by omega); rw [z0.1, z0.2.1, z0.2.2])); rw [zr]) dX12_plans_111
        · skip
          refine hv_aload_n C 0 0 dX12_plans_33 rfl rfl ?_
          refine mo_geta C K 0 1 (by decide) rfl mo_hw fl_7 rfl dX12_plans_34 ?_
          refine hv_bipush C dX12_plans_37 (by decide) ?_
          refine mo_iald C K 1 9040 7 rfl (by omega) (by omega) (by decide) dX12_plans_39 ?_
          refine hv_as (σ 1 7) rfl ?_
          refine hv_nm (fun x2 ex2 => ?_)
          have rx2 : inI x2 := by rw [ex2]; exact hσ 1 7
          refine hv_if_le C 111 dX12_plans_40 (by decide) (by omega) (fun h40 => ?_) (fun h40 => ?_)
          · skip
            exact mo_vret (Qc := fun _ _ _ _ => True) C hr hlk (by have zr : (plR (σ 1) (ua (σ 15) 0 (-1)) (σ 16)) = (tot, G, T) := (by unfold plR; first | (rw [if_neg (by omega), ← hr9 (by omega)]; exact pl9_x (by omega) _) | (rw [if_pos (by omega)]; have z0 := h00 (by omega); rw [z0.1, z0.2.1, z0.2.2])); rw [zr]) dX12_plans_111
          · skip
            obtain ⟨kn, rfl⟩ : ∃ n : Nat, k = (n : Int) := ⟨(k).toNat, by omega⟩
            have t1 := hT kn (by omega)
            refine hv_aload_n C 0 0 dX12_plans_43 rfl rfl ?_
            refine mo_geta C K 25 15 (by decide) rfl mo_hw fl_53 rfl dX12_plans_44 ?_
            refine hv_iload_n C 1 1 dX12_plans_47 rfl rfl ?_
            refine hv_dup2 C dX12_plans_48 rfl rfl ?_
            refine mo_iald C K 15 6 kn rfl (by omega) (by omega) (by decide) dX12_plans_49 ?_
            refine hv_as (T kn) rfl ?_
            refine hv_iconst C dX12_plans_50 ?_
            refine hv_iadd C dX12_plans_51 ?_
            refine mo_iast C K 15 6 kn rfl (moW_set15 _ _ _ _ _ _) (by omega) (by omega) (by decide) dX12_plans_52 ?_
            refine mo_st (σ2 := sA (sA (sA σ 0 (ua (σ 0) 27 tot)) 15 (ua T kn ((T kn) + 1))) 16 G) (by rw [u2_sA, sA_comm (j := 16) (k := 15) (by decide), sA_sA]; first | done | rfl) ?_
            refine hv_aload_n C 0 0 dX12_plans_53 rfl rfl ?_
            refine mo_geta C K 25 15 (by decide) rfl mo_hw fl_53 rfl dX12_plans_54 ?_
            refine hv_iload_n C 1 1 dX12_plans_57 rfl rfl ?_
            refine mo_iald C K 15 6 kn rfl (by omega) (by omega) (by decide) dX12_plans_58 ?_
            refine hv_as ((ua T kn ((T kn) + 1)) kn) rfl ?_
            refine hv_nm (fun x3 ex3 => ?_)
            have rx3 : inI x3 := by rw [ex3]; exact (by rw [ua_at]; omega)
            have zx : x3 = T kn + 1 := by rw [ex3, ua_at]
            refine hv_bipush C dX12_plans_59 (by decide) ?_
            refine hv_icmp_ne C 70 dX12_plans_61 (by decide) (by omega) (by omega) (fun h61 => ?_) (fun h61 => ?_)
            · skip
              have zT : ∀ j : Nat, j ≤ kn → -1 ≤ (ua T kn ((T kn) + 1)) j ∧ (ua T kn ((T kn) + 1)) j ≤ 6 := (fun j q => by have z1 := hT j (by omega); unfold ua; split <;> omega)
              refine hv_aload_n C 0 0 dX12_plans_70 rfl rfl ?_
              refine hv_iload_n C 1 1 dX12_plans_71 rfl rfl ?_
              refine mo_call [.int (iz ((kn : Nat) : Int))] [] C K (k_goes l (sA (sA (sA σ 0 (ua (σ 0) 27 tot)) 15 (ua T kn ((T kn) + 1))) 16 G) kn (by repeat (first | assumption | refine rg_sA ?_ ?_ | refine in_ua ?_ (by omega) | exact fun _ => hσ _ _)) hc (by omega) zT) ck_goes (by decide) rfl (Nat.le_of_ble_eq_true rfl) dX12_plans_72 ?_
              refine hv_as (xb (gs (σ 1) (ua T kn ((T kn) + 1)) kn kn)) rfl ?_
              refine hv_bif_eq C 29 dX12_plans_75 (by decide)  (fun h75 => ?_) (fun h75 => ?_)
              · skip
                exact ih29 ((kn : Nat) : Int) (ua T kn ((T kn) + 1)) G tot (g - 1) (by have z9 := hM (by omega); have z0 := pM_0 (k := (kn : Int)) (T := T) (fun j q => by have z1 := hT j q; omega); omega) (by omega) (fun j q => by first | (have z1 := hT j (by omega); unfold ua; split <;> omega) | (unfold ua; split; (omega); (split; (omega); (have z1 := hT j (by omega); omega)))) (fun j q => by first | (have z2 := hT0 j (by omega); unfold ua; split <;> omega) | (unfold ua; split; (omega); (split; (omega); (have z2 := hT0 j (by omega); omega)))) (by first | exact in_ua hTr (by omega) | exact in_ua (in_ua hTr (by omega)) (by decide)) (by first | exact hGr | (split; (exact hGr); (exact kc_in hGr (in_ua hTr (by omega)) _))) (by first | omega | (split <;> omega)) (fun zp => by have z9 := hM zp; have z1 := pM_a (k := kn) (by omega) T; first | omega | (have z2 := pM_b (k := kn) (by omega) T (by omega); omega) | (have z3 := pM_c (k := kn) (by omega) T; omega)) (fun zp => by have z8 := hr9 zp; have z9 := hM zp; obtain ⟨g1, rfl⟩ : ∃ q9, g = q9 + 1 := ⟨g - 1, by have z0 := pM_0 (k := (kn : Int)) (T := T) (fun j q => by have z1 := hT j q; omega); omega⟩; rw [pl9, if_neg (by omega)] at z8; simp only [Int.toNat_natCast] at z8; first | (rw [if_pos (by omega)] at z8; exact z8) | (rw [if_neg (by omega), if_pos h75] at z8; exact z8) | (rw [if_neg (by omega), if_neg (by rw [h75]; decide), if_pos (by omega)] at z8; exact z8) | (rw [if_neg (by omega), if_neg (by rw [h75]; decide), if_neg (by omega)] at z8; exact z8)) (fun zp => by exfalso; omega)
              · skip
                refine hv_iload_n C 1 1 dX12_plans_78 rfl rfl ?_
                refine hv_aload_n C 0 0 dX12_plans_79 rfl rfl ?_
                refine mo_geta C K 0 1 (by decide) rfl mo_hw fl_7 rfl dX12_plans_80 ?_
                refine hv_bipush C dX12_plans_83 (by decide) ?_
                refine mo_iald C K 1 9040 7 rfl (by omega) (by omega) (by decide) dX12_plans_85 ?_
                refine hv_as (σ 1 7) rfl ?_
                refine hv_nm (fun x4 ex4 => ?_)
                have rx4 : inI x4 := by rw [ex4]; exact hσ 1 7
                refine hv_iconst C dX12_plans_86 ?_
                refine hv_isub C dX12_plans_87 ?_
                refine hv_icmp_ne C 98 dX12_plans_88 (by decide) (by omega) (by omega) (fun h88 => ?_) (fun h88 => ?_)
                · skip
                  refine hv_iinc C 1 1 [(1, .int (iz (((kn : Nat) : Int) + 1))), (0, .ref a0)] dX12_plans_98 rfl (by decide) rfl ?_
                  refine hv_aload_n C 0 1 dX12_plans_101 rfl rfl ?_
                  refine mo_geta C K 25 15 (by decide) rfl mo_hw fl_53 rfl dX12_plans_102 ?_
                  refine hv_iload_n C 1 0 dX12_plans_105 rfl rfl ?_
                  refine hv_iconst C dX12_plans_106 ?_
                  refine mo_iast C K 15 6 (kn + 1) rfl (moW_set15 _ _ _ _ _ _) (by omega) (by omega) (by decide) dX12_plans_107 ?_
                  refine mo_st (σ2 := sA (sA (sA σ 0 (ua (σ 0) 27 tot)) 15 (ua (ua T kn ((T kn) + 1)) (kn + 1) (-1))) 16 G) (by rw [u2_sA, sA_comm (j := 16) (k := 15) (by decide), sA_sA]; first | done | rfl) ?_
                  refine hv_goto C 29 dX12_plans_108 (by decide) ?_
                  refine hv_loc [1, 0] [(0, .ref a0), (1, .int (iz (((kn : Nat) : Int) + 1)))] rfl ?_
                  exact ih29 (((kn : Nat) : Int) + 1) (ua (ua T kn ((T kn) + 1)) (kn + 1) (-1)) G tot (g - 1) (by have z9 := hM (by omega); have z0 := pM_0 (k := (kn : Int)) (T := T) (fun j q => by have z1 := hT j q; omega); omega) (by omega) (fun j q => by first | (have z1 := hT j (by omega); unfold ua; split <;> omega) | (unfold ua; split; (omega); (split; (omega); (have z1 := hT j (by omega); omega)))) (fun j q => by first | (have z2 := hT0 j (by omega); unfold ua; split <;> omega) | (unfold ua; split; (omega); (split; (omega); (have z2 := hT0 j (by omega); omega)))) (by first | exact in_ua hTr (by omega) | exact in_ua (in_ua hTr (by omega)) (by decide)) (by first | exact hGr | (split; (exact hGr); (exact kc_in hGr (in_ua hTr (by omega)) _))) (by first | omega | (split <;> omega)) (fun zp => by have z9 := hM zp; have z1 := pM_a (k := kn) (by omega) T; first | omega | (have z2 := pM_b (k := kn) (by omega) T (by omega); omega) | (have z3 := pM_c (k := kn) (by omega) T; omega)) (fun zp => by have z8 := hr9 zp; have z9 := hM zp; obtain ⟨g1, rfl⟩ : ∃ q9, g = q9 + 1 := ⟨g - 1, by have z0 := pM_0 (k := (kn : Int)) (T := T) (fun j q => by have z1 := hT j q; omega); omega⟩; rw [pl9, if_neg (by omega)] at z8; simp only [Int.toNat_natCast] at z8; first | (rw [if_pos (by omega)] at z8; exact z8) | (rw [if_neg (by omega), if_pos h75] at z8; exact z8) | (rw [if_neg (by omega), if_neg (by rw [h75]; decide), if_pos (by omega)] at z8; exact z8) | (rw [if_neg (by omega), if_neg (by rw [h75]; decide), if_neg (by omega)] at z8; exact z8)) (fun zp => by exfalso; omega)
                · skip
                  have zK : ∀ j : Nat, (j : Int) < σ 1 7 → 0 ≤ (ua T kn ((T kn) + 1)) j ∧ (ua T kn ((T kn) + 1)) j ≤ 5 := (fun j q => by have z1 := hT j (by omega); unfold ua; split; (omega); (have z2 := hT0 j (by omega); omega))
                  have zs : 0 ≤ ks (σ 1) (ua T kn ((T kn) + 1)) (σ 1 7).toNat ∧ ks (σ 1) (ua T kn ((T kn) + 1)) (σ 1 7).toNat ≤ 59994 := ks_rng hp zK (by omega)
                  refine hv_aload_n C 0 0 dX12_plans_91 rfl rfl ?_
                  refine mo_call [] [] C K (k_keeps l (sA (sA (sA σ 0 (ua (σ 0) 27 tot)) 15 (ua T kn ((T kn) + 1))) 16 G)  (by repeat (first | assumption | refine rg_sA ?_ ?_ | refine in_ua ?_ (by omega) | exact fun _ => hσ _ _)) hc hp zK) ck_keeps (by decide) rfl (Nat.le_of_ble_eq_true rfl) dX12_plans_92 ?_
                  refine mo_st (σ2 := sA (sA (sA σ 0 (ua (σ 0) 27 (if ks (σ 1) (ua T kn ((T kn) + 1)) ((σ 1) 7).toNat ≤ tot then tot else ks (σ 1) (ua T kn ((T kn) + 1)) ((σ 1) 7).toNat))) 15 (ua T kn ((T kn) + 1))) 16 (if ks (σ 1) (ua T kn ((T kn) + 1)) ((σ 1) 7).toNat ≤ tot then G else kc G (ua T kn ((T kn) + 1)) ((σ 1) 7).toNat)) (by first | rfl | exact kp_eq _ _ _ _ _ _ | (simp only [u2_sA, sA_sA, sA_at]; done)) ?_
                  refine hv_goto C 29 dX12_plans_95 (by decide) ?_
                  exact ih29 ((kn : Nat) : Int) (ua T kn ((T kn) + 1)) (if ks (σ 1) (ua T kn ((T kn) + 1)) ((σ 1) 7).toNat ≤ tot then G else kc G (ua T kn ((T kn) + 1)) ((σ 1) 7).toNat) (if ks (σ 1) (ua T kn ((T kn) + 1)) ((σ 1) 7).toNat ≤ tot then tot else ks (σ 1) (ua T kn ((T kn) + 1)) ((σ 1) 7).toNat) (g - 1) (by have z9 := hM (by omega); have z0 := pM_0 (k := (kn : Int)) (T := T) (fun j q => by have z1 := hT j q; omega); omega) (by omega) (fun j q => by first | (have z1 := hT j (by omega); unfold ua; split <;> omega) | (unfold ua; split; (omega); (split; (omega); (have z1 := hT j (by omega); omega)))) (fun j q => by first | (have z2 := hT0 j (by omega); unfold ua; split <;> omega) | (unfold ua; split; (omega); (split; (omega); (have z2 := hT0 j (by omega); omega)))) (by first | exact in_ua hTr (by omega) | exact in_ua (in_ua hTr (by omega)) (by decide)) (by first | exact hGr | (split; (exact hGr); (exact kc_in hGr (in_ua hTr (by omega)) _))) (by first | omega | (split <;> omega)) (fun zp => by have z9 := hM zp; have z1 := pM_a (k := kn) (by omega) T; first | omega | (have z2 := pM_b (k := kn) (by omega) T (by omega); omega) | (have z3 := pM_c (k := kn) (by omega) T; omega)) (fun zp => by have z8 := hr9 zp; have z9 := hM zp; obtain ⟨g1, rfl⟩ : ∃ q9, g = q9 + 1 := ⟨g - 1, by have z0 := pM_0 (k := (kn : Int)) (T := T) (fun j q => by have z1 := hT j q; omega); omega⟩; rw [pl9, if_neg (by omega)] at z8; simp only [Int.toNat_natCast] at z8; first | (rw [if_pos (by omega)] at z8; exact z8) | (rw [if_neg (by omega), if_pos h75] at z8; exact z8) | (rw [if_neg (by omega), if_neg (by rw [h75]; decide), if_pos (by omega)] at z8; exact z8) | (rw [if_neg (by omega), if_neg (by rw [h75]; decide), if_neg (by omega)] at z8; exact z8)) (fun zp => by exfalso; omega)
            · skip
              refine hv_iinc C 1 1 [(1, .int (iz (((kn : Nat) : Int) + (-1)))), (0, .ref a0)] dX12_plans_64 rfl (by decide) rfl ?_
              refine hv_goto C 29 dX12_plans_67 (by decide) ?_
              refine hv_loc [1, 0] [(0, .ref a0), (1, .int (iz (((kn : Nat) : Int) + (-1))))] rfl ?_
              exact ih29 (((kn : Nat) : Int) + (-1)) (ua T kn ((T kn) + 1)) G tot (g - 1) (by have z9 := hM (by omega); have z0 := pM_0 (k := (kn : Int)) (T := T) (fun j q => by have z1 := hT j q; omega); omega) (by omega) (fun j q => by first | (have z1 := hT j (by omega); unfold ua; split <;> omega) | (unfold ua; split; (omega); (split; (omega); (have z1 := hT j (by omega); omega)))) (fun j q => by first | (have z2 := hT0 j (by omega); unfold ua; split <;> omega) | (unfold ua; split; (omega); (split; (omega); (have z2 := hT0 j (by omega); omega)))) (by first | exact in_ua hTr (by omega) | exact in_ua (in_ua hTr (by omega)) (by decide)) (by first | exact hGr | (split; (exact hGr); (exact kc_in hGr (in_ua hTr (by omega)) _))) (by first | omega | (split <;> omega)) (fun zp => by have z9 := hM zp; have z1 := pM_a (k := kn) (by omega) T; first | omega | (have z2 := pM_b (k := kn) (by omega) T (by omega); omega) | (have z3 := pM_c (k := kn) (by omega) T; omega)) (fun zp => by have z8 := hr9 zp; have z9 := hM zp; obtain ⟨g1, rfl⟩ : ∃ q9, g = q9 + 1 := ⟨g - 1, by have z0 := pM_0 (k := (kn : Int)) (T := T) (fun j q => by have z1 := hT j q; omega); omega⟩; rw [pl9, if_neg (by omega)] at z8; simp only [Int.toNat_natCast] at z8; first | (rw [if_pos (by omega)] at z8; exact z8) | (rw [if_neg (by omega), if_pos h75] at z8; exact z8) | (rw [if_neg (by omega), if_neg (by rw [h75]; decide), if_pos (by omega)] at z8; exact z8) | (rw [if_neg (by omega), if_neg (by rw [h75]; decide), if_neg (by omega)] at z8; exact z8)) (fun zp => by exfalso; omega)
    refine hv_loc [1, 0] [(0, .ref a0), (1, .int (iz 0))] rfl ?_
    refine mo_st (σ2 := sA (sA (sA σ 0 (ua (σ 0) 27 (-1))) 15 (ua (σ 15) 0 (-1))) 16 (σ 16)) ((sA_id (sA (sA σ 0 (ua (σ 0) 27 (-1))) 15 (ua (σ 15) 0 (-1))) 16).symm) ?_
    exact L29 _ 0 (ua (σ 15) 0 (-1)) (σ 16) (-1) plF (Nat.lt_succ_self _) (by omega) (fun j q => by have zj : j = 0 := (by omega); subst zj; rw [ua_at]; omega) (fun j q => by omega) (in_ua (fun _ => hσ _ _) (by decide)) (fun _ => hσ _ _) (by omega) (fun zp => by simp [pM, ua, plF]) (fun zp => by first | (exfalso; omega) | rfl) (fun zp => by first | (exfalso; omega) | exact ⟨rfl, rfl, rfl⟩)
  · skip
    refine hv_aload_n C 0 1 dX12_plans_24 rfl rfl ?_
    refine hv_iconst C dX12_plans_25 ?_
    refine mo_puti C K (σ2 := u2 (sA (sA σ 0 (ua (σ 0) 27 (-1))) 15 (ua (σ 15) 0 (-1))) 0 27 0) 27 (by decide) rfl mo_hw fl_288 rfl rfl (ty := .int) (by decide +kernel) rfl rfl dX12_plans_26 ?_
    refine mo_st (σ2 := sA (sA σ 0 (ua (σ 0) 27 0)) 15 (ua (σ 15) 0 (-1))) (by rw [u2_sA, sA_comm (j := 15) (k := 0) (by decide), sA_sA]; rw [show (sA (sA σ 0 (ua (σ 0) 27 (-1))) 15 (ua (σ 15) 0 (-1))) 0 = (ua (σ 0) 27 (-1)) from rfl, ua_ua]; first | done | rfl) ?_
    have L29 : ∀ (f : Nat) (k : Int) (T : Nat → Int) (G : Nat → Int) (tot : Int) (g : Nat), g < f → (-1 ≤ k ∧ k ≤ 5 ∧ (0 < σ 1 7 → k ≤ σ 1 7 - 1)) → (∀ j : Nat, (j : Int) ≤ k → -1 ≤ T j ∧ T j ≤ 5) → (∀ j : Nat, (j : Int) < k → 0 ≤ T j) → (∀ j, inI (T j)) → (∀ j, inI (G j)) → (-1 ≤ tot ∧ tot ≤ 59994) → (0 < σ 1 7 → pM k T < (g : Int)) → (0 < σ 1 7 → pl9 (σ 1) g k T G tot = pl9 (σ 1) plF 0 (ua (σ 15) 0 (-1)) (σ 16) (-1)) → (σ 1 7 = 0 → tot = 0 ∧ G = (σ 16) ∧ T = (ua (σ 15) 0 (-1))) → hvV p l e { frames := 1, cells := 0, slots := 0, locals := 24 } s m args below meth c 2 (moR a0) 0 0 (MQ below (moQ D cI cZ a0 none (sA (sA (sA σ 0 (ua (σ 0) 27 (plR (σ 1) (ua (σ 15) 0 (-1)) (σ 16)).1)) 15 (plR (σ 1) (ua (σ 15) 0 (-1)) (σ 16)).2.2) 16 (plR (σ 1) (ua (σ 15) 0 (-1)) (σ 16)).2.1)) args s 0 0 (moR a0)) (moI D cI cZ a0 s.heap (sA (sA (sA σ 0 (ua (σ 0) 27 tot)) 15 T) 16 G)) 29 [(0, .ref a0), (1, .int (iz k))] [] := by
      intro f
      induction f with
      | zero => intro _ _ _ _ _ hm; exact absurd hm (Nat.not_lt_zero _)
      | succ f ih29 =>
        intro k T G tot g hm29 hk hT hT0 hTr hGr ht hM hr9 h00
        refine hv_iload_n C 1 1 dX12_plans_29 rfl rfl ?_
        refine hv_if_lt C 111 dX12_plans_30 (by decide) (by omega) (fun h30 => ?_) (fun h30 => ?_)
        · skip
          exact mo_vret (Qc := fun _ _ _ _ => True) C hr hlk (by have zr : (plR (σ 1) (ua (σ 15) 0 (-1)) (σ 16)) = (tot, G, T) := (by unfold plR; first | (rw [if_neg (by omega), ← hr9 (by omega)]; exact pl9_x (by omega) _) | (rw [if_pos (by omega)]; have z0 := h00 (by omega); rw [z0.1, z0.2.1, z0.2.2])); rw [zr]) dX12_plans_111
        · skip
          refine hv_aload_n C 0 0 dX12_plans_33 rfl rfl ?_
          refine mo_geta C K 0 1 (by decide) rfl mo_hw fl_7 rfl dX12_plans_34 ?_
          refine hv_bipush C dX12_plans_37 (by decide) ?_
          refine mo_iald C K 1 9040 7 rfl (by omega) (by omega) (by decide) dX12_plans_39 ?_
          refine hv_as (σ 1 7) rfl ?_
          refine hv_nm (fun x5 ex5 => ?_)
          have rx5 : inI x5 := by rw [ex5]; exact hσ 1 7
          refine hv_if_le C 111 dX12_plans_40 (by decide) (by omega) (fun h40 => ?_) (fun h40 => ?_)
          · skip
            exact mo_vret (Qc := fun _ _ _ _ => True) C hr hlk (by have zr : (plR (σ 1) (ua (σ 15) 0 (-1)) (σ 16)) = (tot, G, T) := (by unfold plR; first | (rw [if_neg (by omega), ← hr9 (by omega)]; exact pl9_x (by omega) _) | (rw [if_pos (by omega)]; have z0 := h00 (by omega); rw [z0.1, z0.2.1, z0.2.2])); rw [zr]) dX12_plans_111
          · skip
            obtain ⟨kn, rfl⟩ : ∃ n : Nat, k = (n : Int) := ⟨(k).toNat, by omega⟩
            have t1 := hT kn (by omega)
            refine hv_aload_n C 0 0 dX12_plans_43 rfl rfl ?_
            refine mo_geta C K 25 15 (by decide) rfl mo_hw fl_53 rfl dX12_plans_44 ?_
            refine hv_iload_n C 1 1 dX12_plans_47 rfl rfl ?_
            refine hv_dup2 C dX12_plans_48 rfl rfl ?_
            refine mo_iald C K 15 6 kn rfl (by omega) (by omega) (by decide) dX12_plans_49 ?_
            refine hv_as (T kn) rfl ?_
            refine hv_iconst C dX12_plans_50 ?_
            refine hv_iadd C dX12_plans_51 ?_
            refine mo_iast C K 15 6 kn rfl (moW_set15 _ _ _ _ _ _) (by omega) (by omega) (by decide) dX12_plans_52 ?_
            refine mo_st (σ2 := sA (sA (sA σ 0 (ua (σ 0) 27 tot)) 15 (ua T kn ((T kn) + 1))) 16 G) (by rw [u2_sA, sA_comm (j := 16) (k := 15) (by decide), sA_sA]; first | done | rfl) ?_
            refine hv_aload_n C 0 0 dX12_plans_53 rfl rfl ?_
            refine mo_geta C K 25 15 (by decide) rfl mo_hw fl_53 rfl dX12_plans_54 ?_
            refine hv_iload_n C 1 1 dX12_plans_57 rfl rfl ?_
            refine mo_iald C K 15 6 kn rfl (by omega) (by omega) (by decide) dX12_plans_58 ?_
            refine hv_as ((ua T kn ((T kn) + 1)) kn) rfl ?_
            refine hv_nm (fun x6 ex6 => ?_)
            have rx6 : inI x6 := by rw [ex6]; exact (by rw [ua_at]; omega)
            have zx : x6 = T kn + 1 := by rw [ex6, ua_at]
            refine hv_bipush C dX12_plans_59 (by decide) ?_
            refine hv_icmp_ne C 70 dX12_plans_61 (by decide) (by omega) (by omega) (fun h61 => ?_) (fun h61 => ?_)
            · skip
              have zT : ∀ j : Nat, j ≤ kn → -1 ≤ (ua T kn ((T kn) + 1)) j ∧ (ua T kn ((T kn) + 1)) j ≤ 6 := (fun j q => by have z1 := hT j (by omega); unfold ua; split <;> omega)
              refine hv_aload_n C 0 0 dX12_plans_70 rfl rfl ?_
              refine hv_iload_n C 1 1 dX12_plans_71 rfl rfl ?_
              refine mo_call [.int (iz ((kn : Nat) : Int))] [] C K (k_goes l (sA (sA (sA σ 0 (ua (σ 0) 27 tot)) 15 (ua T kn ((T kn) + 1))) 16 G) kn (by repeat (first | assumption | refine rg_sA ?_ ?_ | refine in_ua ?_ (by omega) | exact fun _ => hσ _ _)) hc (by omega) zT) ck_goes (by decide) rfl (Nat.le_of_ble_eq_true rfl) dX12_plans_72 ?_
              refine hv_as (xb (gs (σ 1) (ua T kn ((T kn) + 1)) kn kn)) rfl ?_
              refine hv_bif_eq C 29 dX12_plans_75 (by decide)  (fun h75 => ?_) (fun h75 => ?_)
              · skip
                exact ih29 ((kn : Nat) : Int) (ua T kn ((T kn) + 1)) G tot (g - 1) (by have z9 := hM (by omega); have z0 := pM_0 (k := (kn : Int)) (T := T) (fun j q => by have z1 := hT j q; omega); omega) (by omega) (fun j q => by first | (have z1 := hT j (by omega); unfold ua; split <;> omega) | (unfold ua; split; (omega); (split; (omega); (have z1 := hT j (by omega); omega)))) (fun j q => by first | (have z2 := hT0 j (by omega); unfold ua; split <;> omega) | (unfold ua; split; (omega); (split; (omega); (have z2 := hT0 j (by omega); omega)))) (by first | exact in_ua hTr (by omega) | exact in_ua (in_ua hTr (by omega)) (by decide)) (by first | exact hGr | (split; (exact hGr); (exact kc_in hGr (in_ua hTr (by omega)) _))) (by first | omega | (split <;> omega)) (fun zp => by have z9 := hM zp; have z1 := pM_a (k := kn) (by omega) T; first | omega | (have z2 := pM_b (k := kn) (by omega) T (by omega); omega) | (have z3 := pM_c (k := kn) (by omega) T; omega)) (fun zp => by have z8 := hr9 zp; have z9 := hM zp; obtain ⟨g1, rfl⟩ : ∃ q9, g = q9 + 1 := ⟨g - 1, by have z0 := pM_0 (k := (kn : Int)) (T := T) (fun j q => by have z1 := hT j q; omega); omega⟩; rw [pl9, if_neg (by omega)] at z8; simp only [Int.toNat_natCast] at z8; first | (rw [if_pos (by omega)] at z8; exact z8) | (rw [if_neg (by omega), if_pos h75] at z8; exact z8) | (rw [if_neg (by omega), if_neg (by rw [h75]; decide), if_pos (by omega)] at z8; exact z8) | (rw [if_neg (by omega), if_neg (by rw [h75]; decide), if_neg (by omega)] at z8; exact z8)) (fun zp => by exfalso; omega)
              · skip
                refine hv_iload_n C 1 1 dX12_plans_78 rfl rfl ?_
                refine hv_aload_n C 0 0 dX12_plans_79 rfl rfl ?_
                refine mo_geta C K 0 1 (by decide) rfl mo_hw fl_7 rfl dX12_plans_80 ?_
                refine hv_bipush C dX12_plans_83 (by decide) ?_
                refine mo_iald C K 1 9040 7 rfl (by omega) (by omega) (by decide) dX12_plans_85 ?_
                refine hv_as (σ 1 7) rfl ?_
                refine hv_nm (fun x7 ex7 => ?_)
                have rx7 : inI x7 := by rw [ex7]; exact hσ 1 7
                refine hv_iconst C dX12_plans_86 ?_
                refine hv_isub C dX12_plans_87 ?_
                refine hv_icmp_ne C 98 dX12_plans_88 (by decide) (by omega) (by omega) (fun h88 => ?_) (fun h88 => ?_)
                · skip
                  refine hv_iinc C 1 1 [(1, .int (iz (((kn : Nat) : Int) + 1))), (0, .ref a0)] dX12_plans_98 rfl (by decide) rfl ?_
                  refine hv_aload_n C 0 1 dX12_plans_101 rfl rfl ?_
                  refine mo_geta C K 25 15 (by decide) rfl mo_hw fl_53 rfl dX12_plans_102 ?_
                  refine hv_iload_n C 1 0 dX12_plans_105 rfl rfl ?_
                  refine hv_iconst C dX12_plans_106 ?_
                  refine mo_iast C K 15 6 (kn + 1) rfl (moW_set15 _ _ _ _ _ _) (by omega) (by omega) (by decide) dX12_plans_107 ?_
                  refine mo_st (σ2 := sA (sA (sA σ 0 (ua (σ 0) 27 tot)) 15 (ua (ua T kn ((T kn) + 1)) (kn + 1) (-1))) 16 G) (by rw [u2_sA, sA_comm (j := 16) (k := 15) (by decide), sA_sA]; first | done | rfl) ?_
                  refine hv_goto C 29 dX12_plans_108 (by decide) ?_
                  refine hv_loc [1, 0] [(0, .ref a0), (1, .int (iz (((kn : Nat) : Int) + 1)))] rfl ?_
                  exact ih29 (((kn : Nat) : Int) + 1) (ua (ua T kn ((T kn) + 1)) (kn + 1) (-1)) G tot (g - 1) (by have z9 := hM (by omega); have z0 := pM_0 (k := (kn : Int)) (T := T) (fun j q => by have z1 := hT j q; omega); omega) (by omega) (fun j q => by first | (have z1 := hT j (by omega); unfold ua; split <;> omega) | (unfold ua; split; (omega); (split; (omega); (have z1 := hT j (by omega); omega)))) (fun j q => by first | (have z2 := hT0 j (by omega); unfold ua; split <;> omega) | (unfold ua; split; (omega); (split; (omega); (have z2 := hT0 j (by omega); omega)))) (by first | exact in_ua hTr (by omega) | exact in_ua (in_ua hTr (by omega)) (by decide)) (by first | exact hGr | (split; (exact hGr); (exact kc_in hGr (in_ua hTr (by omega)) _))) (by first | omega | (split <;> omega)) (fun zp => by have z9 := hM zp; have z1 := pM_a (k := kn) (by omega) T; first | omega | (have z2 := pM_b (k := kn) (by omega) T (by omega); omega) | (have z3 := pM_c (k := kn) (by omega) T; omega)) (fun zp => by have z8 := hr9 zp; have z9 := hM zp; obtain ⟨g1, rfl⟩ : ∃ q9, g = q9 + 1 := ⟨g - 1, by have z0 := pM_0 (k := (kn : Int)) (T := T) (fun j q => by have z1 := hT j q; omega); omega⟩; rw [pl9, if_neg (by omega)] at z8; simp only [Int.toNat_natCast] at z8; first | (rw [if_pos (by omega)] at z8; exact z8) | (rw [if_neg (by omega), if_pos h75] at z8; exact z8) | (rw [if_neg (by omega), if_neg (by rw [h75]; decide), if_pos (by omega)] at z8; exact z8) | (rw [if_neg (by omega), if_neg (by rw [h75]; decide), if_neg (by omega)] at z8; exact z8)) (fun zp => by exfalso; omega)
                · skip
                  have zK : ∀ j : Nat, (j : Int) < σ 1 7 → 0 ≤ (ua T kn ((T kn) + 1)) j ∧ (ua T kn ((T kn) + 1)) j ≤ 5 := (fun j q => by have z1 := hT j (by omega); unfold ua; split; (omega); (have z2 := hT0 j (by omega); omega))
                  have zs : 0 ≤ ks (σ 1) (ua T kn ((T kn) + 1)) (σ 1 7).toNat ∧ ks (σ 1) (ua T kn ((T kn) + 1)) (σ 1 7).toNat ≤ 59994 := ks_rng hp zK (by omega)
                  refine hv_aload_n C 0 0 dX12_plans_91 rfl rfl ?_
                  refine mo_call [] [] C K (k_keeps l (sA (sA (sA σ 0 (ua (σ 0) 27 tot)) 15 (ua T kn ((T kn) + 1))) 16 G)  (by repeat (first | assumption | refine rg_sA ?_ ?_ | refine in_ua ?_ (by omega) | exact fun _ => hσ _ _)) hc hp zK) ck_keeps (by decide) rfl (Nat.le_of_ble_eq_true rfl) dX12_plans_92 ?_
                  refine mo_st (σ2 := sA (sA (sA σ 0 (ua (σ 0) 27 (if ks (σ 1) (ua T kn ((T kn) + 1)) ((σ 1) 7).toNat ≤ tot then tot else ks (σ 1) (ua T kn ((T kn) + 1)) ((σ 1) 7).toNat))) 15 (ua T kn ((T kn) + 1))) 16 (if ks (σ 1) (ua T kn ((T kn) + 1)) ((σ 1) 7).toNat ≤ tot then G else kc G (ua T kn ((T kn) + 1)) ((σ 1) 7).toNat)) (by first | rfl | exact kp_eq _ _ _ _ _ _ | (simp only [u2_sA, sA_sA, sA_at]; done)) ?_
                  refine hv_goto C 29 dX12_plans_95 (by decide) ?_
                  exact ih29 ((kn : Nat) : Int) (ua T kn ((T kn) + 1)) (if ks (σ 1) (ua T kn ((T kn) + 1)) ((σ 1) 7).toNat ≤ tot then G else kc G (ua T kn ((T kn) + 1)) ((σ 1) 7).toNat) (if ks (σ 1) (ua T kn ((T kn) + 1)) ((σ 1) 7).toNat ≤ tot then tot else ks (σ 1) (ua T kn ((T kn) + 1)) ((σ 1) 7).toNat) (g - 1) (by have z9 := hM (by omega); have z0 := pM_0 (k := (kn : Int)) (T := T) (fun j q => by have z1 := hT j q; omega); omega) (by omega) (fun j q => by first | (have z1 := hT j (by omega); unfold ua; split <;> omega) | (unfold ua; split; (omega); (split; (omega); (have z1 := hT j (by omega); omega)))) (fun j q => by first | (have z2 := hT0 j (by omega); unfold ua; split <;> omega) | (unfold ua; split; (omega); (split; (omega); (have z2 := hT0 j (by omega); omega)))) (by first | exact in_ua hTr (by omega) | exact in_ua (in_ua hTr (by omega)) (by decide)) (by first | exact hGr | (split; (exact hGr); (exact kc_in hGr (in_ua hTr (by omega)) _))) (by first | omega | (split <;> omega)) (fun zp => by have z9 := hM zp; have z1 := pM_a (k := kn) (by omega) T; first | omega | (have z2 := pM_b (k := kn) (by omega) T (by omega); omega) | (have z3 := pM_c (k := kn) (by omega) T; omega)) (fun zp => by have z8 := hr9 zp; have z9 := hM zp; obtain ⟨g1, rfl⟩ : ∃ q9, g = q9 + 1 := ⟨g - 1, by have z0 := pM_0 (k := (kn : Int)) (T := T) (fun j q => by have z1 := hT j q; omega); omega⟩; rw [pl9, if_neg (by omega)] at z8; simp only [Int.toNat_natCast] at z8; first | (rw [if_pos (by omega)] at z8; exact z8) | (rw [if_neg (by omega), if_pos h75] at z8; exact z8) | (rw [if_neg (by omega), if_neg (by rw [h75]; decide), if_pos (by omega)] at z8; exact z8) | (rw [if_neg (by omega), if_neg (by rw [h75]; decide), if_neg (by omega)] at z8; exact z8)) (fun zp => by exfalso; omega)
            · skip
              refine hv_iinc C 1 1 [(1, .int (iz (((kn : Nat) : Int) + (-1)))), (0, .ref a0)] dX12_plans_64 rfl (by decide) rfl ?_
              refine hv_goto C 29 dX12_plans_67 (by decide) ?_
              refine hv_loc [1, 0] [(0, .ref a0), (1, .int (iz (((kn : Nat) : Int) + (-1))))] rfl ?_
              exact ih29 (((kn : Nat) : Int) + (-1)) (ua T kn ((T kn) + 1)) G tot (g - 1) (by have z9 := hM (by omega); have z0 := pM_0 (k := (kn : Int)) (T := T) (fun j q => by have z1 := hT j q; omega); omega) (by omega) (fun j q => by first | (have z1 := hT j (by omega); unfold ua; split <;> omega) | (unfold ua; split; (omega); (split; (omega); (have z1 := hT j (by omega); omega)))) (fun j q => by first | (have z2 := hT0 j (by omega); unfold ua; split <;> omega) | (unfold ua; split; (omega); (split; (omega); (have z2 := hT0 j (by omega); omega)))) (by first | exact in_ua hTr (by omega) | exact in_ua (in_ua hTr (by omega)) (by decide)) (by first | exact hGr | (split; (exact hGr); (exact kc_in hGr (in_ua hTr (by omega)) _))) (by first | omega | (split <;> omega)) (fun zp => by have z9 := hM zp; have z1 := pM_a (k := kn) (by omega) T; first | omega | (have z2 := pM_b (k := kn) (by omega) T (by omega); omega) | (have z3 := pM_c (k := kn) (by omega) T; omega)) (fun zp => by have z8 := hr9 zp; have z9 := hM zp; obtain ⟨g1, rfl⟩ : ∃ q9, g = q9 + 1 := ⟨g - 1, by have z0 := pM_0 (k := (kn : Int)) (T := T) (fun j q => by have z1 := hT j q; omega); omega⟩; rw [pl9, if_neg (by omega)] at z8; simp only [Int.toNat_natCast] at z8; first | (rw [if_pos (by omega)] at z8; exact z8) | (rw [if_neg (by omega), if_pos h75] at z8; exact z8) | (rw [if_neg (by omega), if_neg (by rw [h75]; decide), if_pos (by omega)] at z8; exact z8) | (rw [if_neg (by omega), if_neg (by rw [h75]; decide), if_neg (by omega)] at z8; exact z8)) (fun zp => by exfalso; omega)
    refine hv_loc [1, 0] [(0, .ref a0), (1, .int (iz 0))] rfl ?_
    refine mo_st (σ2 := sA (sA (sA σ 0 (ua (σ 0) 27 0)) 15 (ua (σ 15) 0 (-1))) 16 (σ 16)) ((sA_id (sA (sA σ 0 (ua (σ 0) 27 0)) 15 (ua (σ 15) 0 (-1))) 16).symm) ?_
    exact L29 _ 0 (ua (σ 15) 0 (-1)) (σ 16) 0 plF (Nat.lt_succ_self _) (by omega) (fun j q => by have zj : j = 0 := (by omega); subst zj; rw [ua_at]; omega) (fun j q => by omega) (in_ua (fun _ => hσ _ _) (by decide)) (fun _ => hσ _ _) (by omega) (fun zp => by simp [pM, ua, plF]) (fun zp => by first | (exfalso; omega) | rfl) (fun zp => by first | (exfalso; omega) | exact ⟨rfl, rfl, rfl⟩)
