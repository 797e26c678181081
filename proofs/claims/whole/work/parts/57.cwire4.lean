/-- where a wire goes among the lighter ones, and the row with the heavier ones moved up -/
def is9 (A : Nat → Int) (w : Nat) : Nat → (Nat → Int) → (Nat → Int) × Nat
  | 0, O => (O, 0)
  | k + 1, O => if A (30 + 4 * w + 2) < A (30 + 4 * (O k).toNat + 2) then is9 A w k (ua O (k + 1) (O k)) else (O, k + 1)
def ow9 (A O : Nat → Int) : Nat → (Nat → Int)
  | 0 => O
  | w + 1 => ua (is9 A w w (ow9 A O w)).1 (is9 A w w (ow9 A O w)).2 (w : Int)
theorem is9_s {A : Nat → Int} {w k : Nat} {O : Nat → Int} (hk : 0 < k) (c : A (30 + 4 * w + 2) < A (30 + 4 * (O (k - 1)).toNat + 2)) : is9 A w k O = is9 A w (k - 1) (ua O k (O (k - 1))) := by
  obtain ⟨g, rfl⟩ : ∃ q, k = q + 1 := ⟨k - 1, by omega⟩
  conv => lhs; unfold is9
  rw [show g + 1 - 1 = g by omega] at c ⊢
  rw [if_pos c]
theorem is9_n {A : Nat → Int} {w k : Nat} {O : Nat → Int} (c : k = 0 ∨ ¬ A (30 + 4 * w + 2) < A (30 + 4 * (O (k - 1)).toNat + 2)) : is9 A w k O = (O, k) := by
  cases k with
  | zero => rfl
  | succ g =>
    unfold is9
    rw [show g + 1 - 1 = g by omega] at c
    rw [if_neg (by omega)]
theorem is9_j {A : Nat → Int} {w k : Nat} {O : Nat → Int} {x : Int} {r : (Nat → Int) × Nat} (h : is9 A w k O = r) (hk : 0 < k) (c : A (30 + 4 * w + 2) < A (30 + 4 * (O (k - 1)).toNat + 2)) (hx : x = O (k - 1)) : is9 A w ((k : Int) + -1).toNat (ua O k x) = r := by
  rw [show ((k : Int) + -1).toNat = k - 1 by omega, hx, ← is9_s hk c, h]
theorem ow9_s {A O O1 O2 : Nat → Int} {w k : Nat} (h1 : O1 = ow9 A O w) (h2 : is9 A w k O2 = is9 A w w O1) (c : k = 0 ∨ ¬ A (30 + 4 * w + 2) < A (30 + 4 * (O2 (k - 1)).toNat + 2)) : ua O2 k (w : Int) = ow9 A O (w + 1) := by
  rw [is9_n c] at h2
  show _ = ua (is9 A w w (ow9 A O w)).1 (is9 A w w (ow9 A O w)).2 (w : Int)
  rw [← h1, ← h2]
theorem ow9_r {O2 : Nat → Int} {w k : Nat} (h2 : ∀ i : Nat, i < k → 0 ≤ O2 i ∧ O2 i < (w : Int)) (h3 : ∀ i : Nat, k < i → i ≤ w → 0 ≤ O2 i ∧ O2 i < (w : Int)) : ∀ i, i < w + 1 → 0 ≤ ua O2 k (w : Int) i ∧ ua O2 k (w : Int) i < ((w + 1 : Nat) : Int) := by
  intro i z
  unfold ua
  by_cases e : i = k
  · rw [if_pos e]; omega
  · rw [if_neg e]
    by_cases g : i < k
    · have := h2 i g; omega
    · have := h3 i (by omega) (by omega); omega
theorem ow9_t {O2 : Nat → Int} {w k : Nat} {x : Int} (hx : x = O2 (k - 1)) (hk : 0 < k) (h2 : ∀ i : Nat, (i : Int) < (k : Int) → 0 ≤ O2 i ∧ O2 i < (w : Int)) (h3 : ∀ i : Nat, (k : Int) < (i : Int) → i ≤ w → 0 ≤ O2 i ∧ O2 i < (w : Int)) : ∀ i : Nat, (k : Int) + -1 < (i : Int) → i ≤ w → 0 ≤ ua O2 k x i ∧ ua O2 k x i < (w : Int) := by
  intro i z z2
  unfold ua
  by_cases e : i = k
  · rw [if_pos e, hx]; exact h2 _ (by omega)
  · rw [if_neg e]; exact h3 i (by omega) z2

theorem dX10_orderWires_0 : decode cX10_orderWires 0 = .ok (.iconst 0, 1) := by decide +kernel
theorem dX10_orderWires_1 : decode cX10_orderWires 1 = .ok (.istore_n 2, 1) := by decide +kernel
theorem dX10_orderWires_2 : decode cX10_orderWires 2 = .ok (.iload_n 2, 1) := by decide +kernel
theorem dX10_orderWires_3 : decode cX10_orderWires 3 = .ok (.aload_n 1, 1) := by decide +kernel
theorem dX10_orderWires_4 : decode cX10_orderWires 4 = .ok (.getfield 86, 3) := by decide +kernel
theorem dX10_orderWires_7 : decode cX10_orderWires 7 = .ok (.invokevirtual 41, 3) := by decide +kernel
theorem dX10_orderWires_10 : decode cX10_orderWires 10 = .ok (.if_icmp .ge 80, 3) := by decide +kernel
theorem dX10_orderWires_13 : decode cX10_orderWires 13 = .ok (.iload_n 2, 1) := by decide +kernel
theorem dX10_orderWires_14 : decode cX10_orderWires 14 = .ok (.istore_n 3, 1) := by decide +kernel
theorem dX10_orderWires_15 : decode cX10_orderWires 15 = .ok (.iload_n 3, 1) := by decide +kernel
theorem dX10_orderWires_16 : decode cX10_orderWires 16 = .ok (.ifCond .le 61, 3) := by decide +kernel
theorem dX10_orderWires_19 : decode cX10_orderWires 19 = .ok (.aload_n 1, 1) := by decide +kernel
theorem dX10_orderWires_20 : decode cX10_orderWires 20 = .ok (.getfield 86, 3) := by decide +kernel
theorem dX10_orderWires_23 : decode cX10_orderWires 23 = .ok (.aload_n 0, 1) := by decide +kernel
theorem dX10_orderWires_24 : decode cX10_orderWires 24 = .ok (.getfield 21, 3) := by decide +kernel
theorem dX10_orderWires_27 : decode cX10_orderWires 27 = .ok (.iload_n 3, 1) := by decide +kernel
theorem dX10_orderWires_28 : decode cX10_orderWires 28 = .ok (.iconst 1, 1) := by decide +kernel
theorem dX10_orderWires_29 : decode cX10_orderWires 29 = .ok (.isub, 1) := by decide +kernel
theorem dX10_orderWires_30 : decode cX10_orderWires 30 = .ok (.iaload, 1) := by decide +kernel
theorem dX10_orderWires_31 : decode cX10_orderWires 31 = .ok (.invokevirtual 54, 3) := by decide +kernel
theorem dX10_orderWires_34 : decode cX10_orderWires 34 = .ok (.checkcast 89, 3) := by decide +kernel
theorem dX10_orderWires_37 : decode cX10_orderWires 37 = .ok (.getfield 91, 3) := by decide +kernel
theorem dX10_orderWires_40 : decode cX10_orderWires 40 = .ok (.aload_n 1, 1) := by decide +kernel
theorem dX10_orderWires_41 : decode cX10_orderWires 41 = .ok (.getfield 86, 3) := by decide +kernel
theorem dX10_orderWires_44 : decode cX10_orderWires 44 = .ok (.iload_n 2, 1) := by decide +kernel
theorem dX10_orderWires_45 : decode cX10_orderWires 45 = .ok (.invokevirtual 54, 3) := by decide +kernel
theorem dX10_orderWires_48 : decode cX10_orderWires 48 = .ok (.checkcast 89, 3) := by decide +kernel
theorem dX10_orderWires_51 : decode cX10_orderWires 51 = .ok (.getfield 91, 3) := by decide +kernel
theorem dX10_orderWires_54 : decode cX10_orderWires 54 = .ok (.if_icmp .le 23, 3) := by decide +kernel
theorem dX10_orderWires_57 : decode cX10_orderWires 57 = .ok (.aload_n 0, 1) := by decide +kernel
theorem dX10_orderWires_58 : decode cX10_orderWires 58 = .ok (.getfield 21, 3) := by decide +kernel
theorem dX10_orderWires_61 : decode cX10_orderWires 61 = .ok (.iload_n 3, 1) := by decide +kernel
theorem dX10_orderWires_62 : decode cX10_orderWires 62 = .ok (.aload_n 0, 1) := by decide +kernel
theorem dX10_orderWires_63 : decode cX10_orderWires 63 = .ok (.getfield 21, 3) := by decide +kernel
theorem dX10_orderWires_66 : decode cX10_orderWires 66 = .ok (.iload_n 3, 1) := by decide +kernel
theorem dX10_orderWires_67 : decode cX10_orderWires 67 = .ok (.iconst 1, 1) := by decide +kernel
theorem dX10_orderWires_68 : decode cX10_orderWires 68 = .ok (.isub, 1) := by decide +kernel
theorem dX10_orderWires_69 : decode cX10_orderWires 69 = .ok (.iaload, 1) := by decide +kernel
theorem dX10_orderWires_70 : decode cX10_orderWires 70 = .ok (.iastore, 1) := by decide +kernel
theorem dX10_orderWires_71 : decode cX10_orderWires 71 = .ok (.iinc 3 (-1), 3) := by decide +kernel
theorem dX10_orderWires_74 : decode cX10_orderWires 74 = .ok (.goto (-59), 3) := by decide +kernel
theorem dX10_orderWires_77 : decode cX10_orderWires 77 = .ok (.aload_n 0, 1) := by decide +kernel
theorem dX10_orderWires_78 : decode cX10_orderWires 78 = .ok (.getfield 21, 3) := by decide +kernel
theorem dX10_orderWires_81 : decode cX10_orderWires 81 = .ok (.iload_n 3, 1) := by decide +kernel
theorem dX10_orderWires_82 : decode cX10_orderWires 82 = .ok (.iload_n 2, 1) := by decide +kernel
theorem dX10_orderWires_83 : decode cX10_orderWires 83 = .ok (.iastore, 1) := by decide +kernel
theorem dX10_orderWires_84 : decode cX10_orderWires 84 = .ok (.iinc 2 1, 3) := by decide +kernel
theorem dX10_orderWires_87 : decode cX10_orderWires 87 = .ok (.goto (-85), 3) := by decide +kernel
theorem dX10_orderWires_90 : decode cX10_orderWires 90 = .ok (.return_, 1) := by decide +kernel
theorem fl_X10_21 : Cond.fieldLink RX10 21 "HookUps$Wiring" (TX10 3).2.1 (TX10 3).2.2.1 ∈ hk_tb := hk_tq1 218 (by decide +kernel) (by decide +kernel)
set_option maxRecDepth 100000 in
set_option maxHeartbeats 4000000 in
theorem k_X10_orderWires_wa (l : Launch) {D : va_G} {ar : Nat → ClassId} {B : Nat → Prop} {b n : Nat} {w0 : zcW} (A : Nat → Int) (τ : Nat → Nat → Int)  (hA : ∀ i, inI (A i)) (hR : Rel9 ar b w0 A τ) (hc : cn A) (hwi : wi A) : zt_M l D ar B b w0 n yX10_orderWires cX10_orderWires 4 none 3 64 [.ref (b + 24), .ref (b + 1)] τ none (sA τ 28 (ow9 A (τ 28) (A 1).toNat)) := by
  refine zc_start (own := RX10) (by decide +kernel) rfl (Nat.le_of_ble_eq_true rfl) ?_
  intro p e s m args below meth c C K hr hlk hnam
  have n2 := hR.l2.1
  refine hv_iconst C dX10_orderWires_0 ?_
  refine hv_istore_n C 2 [(2, .int (iz 0)), (0, .ref (b + 24)), (1, .ref (b + 1))] dX10_orderWires_1 rfl (by decide) rfl ?_
  have L2 : ∀ (f : Nat) (w : Nat) (O1 : Nat → Int), (A 1).toNat - w < f → ((w : Int) ≤ A 1) → (O1 = ow9 A (τ 28) w) → (∀ i, i < w → 0 ≤ O1 i ∧ O1 i < (w : Int)) → hvV p l e { frames := 3, cells := 0, slots := 0, locals := 64 } s m args below meth c 4 B 0 0 (MQ below (zc_Q D B (fun r' w' n' => r' = none ∧ w' = cw ar b (sA τ 28 (ow9 A (τ 28) (A 1).toNat)) w0 ∧ n' = n)) args s 0 0 B) (zc_I D B (cw ar b (sA τ 28 O1) w0) n s.heap) 2 [(0, .ref (b + 24)), (1, .ref (b + 1)), (2, .int (iz ((w : Nat) : Int)))] [] := by
    intro f
    induction f with
    | zero => intro _ _ hm; exact absurd hm (Nat.not_lt_zero _)
    | succ f ih2 =>
      intro w O1 hm2 hw hO1 hOr
      refine hv_iload_n C 2 2 dX10_orderWires_2 rfl rfl ?_
      refine hv_aload_n C 1 1 dX10_orderWires_3 rfl rfl ?_
      refine zc_get C K (v := .ref (b + 2)) 1 rfl hu_9 (by decide) (cw_at 1 rfl) rfl fl_X10_86 rfl dX10_orderWires_4 ?_
      refine zt_callV [] [.int (iz ((w : Nat) : Int))] C K (cw_at 2 rfl) rfl (k_Jx4a65c_size_8abf5 l 2 (sA τ 28 O1)  rfl) ck_X10_41 (by decide) ⟨Nat.zero_le _, Nat.zero_le _⟩ rfl (Nat.le_of_ble_eq_true rfl) dX10_orderWires_7 ?_
      refine hv_as ((τ 2 2)) rfl ?_
      refine hv_nm (fun x1 ex1 => ?_)
      have rx1 : inI x1 := by rw [ex1]; exact (by have z := hA 1; omega)
      refine hv_icmp_ge C 90 dX10_orderWires_10 (by decide) (by omega) (by omega) (fun h10 => ?_) (fun h10 => ?_)
      · skip
        exact zt_vret C hr hlk (by rw [hO1, show w = (A 1).toNat by omega]) dX10_orderWires_90
      · skip
        refine hv_iload_n C 2 2 dX10_orderWires_13 rfl rfl ?_
        refine hv_istore_n C 3 [(3, .int (iz ((w : Nat) : Int))), (0, .ref (b + 24)), (1, .ref (b + 1)), (2, .int (iz ((w : Nat) : Int)))] dX10_orderWires_14 rfl (by decide) rfl ?_
        have L15 : ∀ (f : Nat) (k : Int) (O2 : Nat → Int), k.toNat < f → (0 ≤ k ∧ k ≤ (w : Int)) → (is9 A w k.toNat O2 = is9 A w w O1) → (∀ i : Nat, (i : Int) < k → 0 ≤ O2 i ∧ O2 i < (w : Int)) → (∀ i : Nat, k < (i : Int) → i ≤ w → 0 ≤ O2 i ∧ O2 i < (w : Int)) → hvV p l e { frames := 3, cells := 0, slots := 0, locals := 64 } s m args below meth c 4 B 0 0 (MQ below (zc_Q D B (fun r' w' n' => r' = none ∧ w' = cw ar b (sA τ 28 (ow9 A (τ 28) (A 1).toNat)) w0 ∧ n' = n)) args s 0 0 B) (zc_I D B (cw ar b (sA τ 28 O2) w0) n s.heap) 15 [(0, .ref (b + 24)), (1, .ref (b + 1)), (2, .int (iz ((w : Nat) : Int))), (3, .int (iz k))] [] := by
          intro f
          induction f with
          | zero => intro _ _ hm; exact absurd hm (Nat.not_lt_zero _)
          | succ f ih15 =>
            intro k O2 hm15 hk hr9 hO2 hO3
            refine hv_iload_n C 3 3 dX10_orderWires_15 rfl rfl ?_
            refine hv_if_le C 77 dX10_orderWires_16 (by decide) (by omega) (fun h16 => ?_) (fun h16 => ?_)
            · skip
              obtain ⟨kn, rfl⟩ : ∃ n9 : Nat, k = (n9 : Int) := ⟨(k).toNat, by omega⟩
              refine hv_aload_n C 0 0 dX10_orderWires_77 rfl rfl ?_
              refine zc_get C K (v := .ref (b + 28)) 3 rfl hu_11 (by decide) (cw_at 24 rfl) rfl fl_X10_21 rfl dX10_orderWires_78 ?_
              refine hv_iload_n C 3 3 dX10_orderWires_81 rfl rfl ?_
              refine hv_iload_n C 2 2 dX10_orderWires_82 rfl rfl ?_
              refine zc_iast C K (f := O2) kn (cw_at 28 rfl) (cw_set 28 kn ((w : Nat) : Int) rfl) (by omega) (by omega) (by decide) dX10_orderWires_83 ?_
              refine zt_st (τ2 := sA τ 28 (ua O2 kn ((w : Nat) : Int))) (by rw [u2_sA, sA_sA]; first | done | rfl) ?_
              refine hv_iinc C 2 2 [(2, .int (iz (((w : Nat) : Int) + 1))), (0, .ref (b + 24)), (1, .ref (b + 1)), (3, .int (iz ((kn : Nat) : Int)))] dX10_orderWires_84 rfl (by decide) rfl ?_
              refine hv_goto C 2 dX10_orderWires_87 (by decide) ?_
              refine hv_loc [1, 2, 0] [(0, .ref (b + 24)), (1, .ref (b + 1)), (2, .int (iz (((w : Nat) : Int) + 1)))] rfl ?_
              exact ih2 (w + 1) (ua O2 kn ((w : Nat) : Int)) (by omega) (by omega) (ow9_s hO1 (by first | exact hr9 | (rw [Int.toNat_natCast] at hr9; exact hr9)) (by first | omega | (rw [zq1]; omega))) (ow9_r (fun i z => hO2 i (by omega)) (fun i z z2 => hO3 i (by omega) z2))
            · skip
              obtain ⟨kn, rfl⟩ : ∃ n9 : Nat, k = (n9 : Int) := ⟨(k).toNat, by omega⟩
              have zo1 := hO2 (kn - 1) (by omega)
              rw [Int.toNat_natCast] at hr9
              refine hv_aload_n C 1 1 dX10_orderWires_19 rfl rfl ?_
              refine zc_get C K (v := .ref (b + 2)) 1 rfl hu_9 (by decide) (cw_at 1 rfl) rfl fl_X10_86 rfl dX10_orderWires_20 ?_
              refine hv_aload_n C 0 0 dX10_orderWires_23 rfl rfl ?_
              refine zc_get C K (v := .ref (b + 28)) 3 rfl hu_11 (by decide) (cw_at 24 rfl) rfl fl_X10_21 rfl dX10_orderWires_24 ?_
              refine hv_iload_n C 3 3 dX10_orderWires_27 rfl rfl ?_
              refine hv_iconst C dX10_orderWires_28 ?_
              refine hv_isub C dX10_orderWires_29 ?_
              refine hv_as (((kn - 1 : Nat) : Int)) (by omega) ?_
              refine zc_iald C K (f := O2) (kn - 1) (cw_at 28 rfl) (by omega) (by omega) (by decide) dX10_orderWires_30 ?_
              refine hv_nm (fun x2 ex2 => ?_)
              obtain ⟨oN, rfl⟩ : ∃ n9 : Nat, x2 = (n9 : Int) := ⟨(x2).toNat, by omega⟩
              have zq1 : (O2 (kn - 1)).toNat = oN := by omega
              have zw1 := hwi oN (by omega)
              have zw2 := hwi w (by omega)
              obtain ⟨p3, i3, o3⟩ := ((by repeat (first | exact hR | refine rl_sA (by decide) ?_)) : Rel9 ar b w0 A (sA τ 28 O2)).l2.2 oN (by omega)
              refine zt_callV [.int (iz ((oN : Nat) : Int))] [] C K (cw_at 2 rfl) rfl (k_Jx4a65c_get_915e3 l 2 p3 (sA τ 28 O2) oN rfl i3) ck_X10_54 (by decide) ⟨Nat.zero_le _, Nat.zero_le _⟩ rfl (Nat.le_of_ble_eq_true rfl) dX10_orderWires_31 ?_
              refine zc_cast C K (cw_ob o3) (hc := rfl) cl_X10_89 dX10_orderWires_34 ?_
              refine zc_get C K (v := .int (iz (A (30 + 4 * oN + 2)))) 2 rfl hu_10 (by decide) (cw_ob o3) rfl fl_X10_91 rfl dX10_orderWires_37 ?_
              refine hv_nm (fun x4 ex4 => ?_)
              have rx4 : inI x4 := by rw [ex4]; exact (hA _)
              refine hv_aload_n C 1 1 dX10_orderWires_40 rfl rfl ?_
              refine zc_get C K (v := .ref (b + 2)) 1 rfl hu_9 (by decide) (cw_at 1 rfl) rfl fl_X10_86 rfl dX10_orderWires_41 ?_
              refine hv_iload_n C 2 2 dX10_orderWires_44 rfl rfl ?_
              obtain ⟨p5, i5, o5⟩ := ((by repeat (first | exact hR | refine rl_sA (by decide) ?_)) : Rel9 ar b w0 A (sA τ 28 O2)).l2.2 w (by omega)
              refine zt_callV [.int (iz ((w : Nat) : Int))] [.int (iz x4)] C K (cw_at 2 rfl) rfl (k_Jx4a65c_get_915e3 l 2 p5 (sA τ 28 O2) w rfl i5) ck_X10_54 (by decide) ⟨Nat.zero_le _, Nat.zero_le _⟩ rfl (Nat.le_of_ble_eq_true rfl) dX10_orderWires_45 ?_
              refine zc_cast C K (cw_ob o5) (hc := rfl) cl_X10_89 dX10_orderWires_48 ?_
              refine zc_get C K (v := .int (iz (A (30 + 4 * w + 2)))) 2 rfl hu_10 (by decide) (cw_ob o5) rfl fl_X10_91 rfl dX10_orderWires_51 ?_
              refine hv_nm (fun x6 ex6 => ?_)
              have rx6 : inI x6 := by rw [ex6]; exact (hA _)
              refine hv_icmp_le C 77 dX10_orderWires_54 (by decide) (by omega) (by omega) (fun h54 => ?_) (fun h54 => ?_)
              · skip
                refine hv_aload_n C 0 0 dX10_orderWires_77 rfl rfl ?_
                refine zc_get C K (v := .ref (b + 28)) 3 rfl hu_11 (by decide) (cw_at 24 rfl) rfl fl_X10_21 rfl dX10_orderWires_78 ?_
                refine hv_iload_n C 3 3 dX10_orderWires_81 rfl rfl ?_
                refine hv_iload_n C 2 2 dX10_orderWires_82 rfl rfl ?_
                refine zc_iast C K (f := O2) kn (cw_at 28 rfl) (cw_set 28 kn ((w : Nat) : Int) rfl) (by omega) (by omega) (by decide) dX10_orderWires_83 ?_
                refine zt_st (τ2 := sA τ 28 (ua O2 kn ((w : Nat) : Int))) (by rw [u2_sA, sA_sA]; first | done | rfl) ?_
                refine hv_iinc C 2 2 [(2, .int (iz (((w : Nat) : Int) + 1))), (0, .ref (b + 24)), (1, .ref (b + 1)), (3, .int (iz ((kn : Nat) : Int)))] dX10_orderWires_84 rfl (by decide) rfl ?_
                refine hv_goto C 2 dX10_orderWires_87 (by decide) ?_
                refine hv_loc [1, 2, 0] [(0, .ref (b + 24)), (1, .ref (b + 1)), (2, .int (iz (((w : Nat) : Int) + 1)))] rfl ?_
                exact ih2 (w + 1) (ua O2 kn ((w : Nat) : Int)) (by omega) (by omega) (ow9_s hO1 (by first | exact hr9 | (rw [Int.toNat_natCast] at hr9; exact hr9)) (by first | omega | (rw [zq1]; omega))) (ow9_r (fun i z => hO2 i (by omega)) (fun i z z2 => hO3 i (by omega) z2))
              · skip
                refine hv_aload_n C 0 0 dX10_orderWires_57 rfl rfl ?_
                refine zc_get C K (v := .ref (b + 28)) 3 rfl hu_11 (by decide) (cw_at 24 rfl) rfl fl_X10_21 rfl dX10_orderWires_58 ?_
                refine hv_iload_n C 3 3 dX10_orderWires_61 rfl rfl ?_
                refine hv_aload_n C 0 0 dX10_orderWires_62 rfl rfl ?_
                refine zc_get C K (v := .ref (b + 28)) 3 rfl hu_11 (by decide) (cw_at 24 rfl) rfl fl_X10_21 rfl dX10_orderWires_63 ?_
                refine hv_iload_n C 3 3 dX10_orderWires_66 rfl rfl ?_
                refine hv_iconst C dX10_orderWires_67 ?_
                refine hv_isub C dX10_orderWires_68 ?_
                refine hv_as (((kn - 1 : Nat) : Int)) (by omega) ?_
                refine zc_iald C K (f := O2) (kn - 1) (cw_at 28 rfl) (by omega) (by omega) (by decide) dX10_orderWires_69 ?_
                refine hv_nm (fun x7 ex7 => ?_)
                refine zc_iast C K (f := O2) kn (cw_at 28 rfl) (cw_set 28 kn x7 rfl) (by omega) (by omega) (by decide) dX10_orderWires_70 ?_
                refine zt_st (τ2 := sA τ 28 (ua O2 kn x7)) (by rw [u2_sA, sA_sA]; first | done | rfl) ?_
                refine hv_iinc C 3 3 [(3, .int (iz (((kn : Nat) : Int) + (-1)))), (0, .ref (b + 24)), (1, .ref (b + 1)), (2, .int (iz ((w : Nat) : Int)))] dX10_orderWires_71 rfl (by decide) rfl ?_
                refine hv_goto C 15 dX10_orderWires_74 (by decide) ?_
                refine hv_loc [1, 2, 3, 0] [(0, .ref (b + 24)), (1, .ref (b + 1)), (2, .int (iz ((w : Nat) : Int))), (3, .int (iz (((kn : Nat) : Int) + (-1))))] rfl ?_
                exact ih15 (((kn : Nat) : Int) + (-1)) (ua O2 kn x7) (by omega) (by omega) (is9_j hr9 (by omega) (by rw [zq1]; omega) (by assumption)) (fun i z => by rw [ua_ne _ _ (by omega)]; exact hO2 i (by omega)) (ow9_t (by assumption) (by omega) hO2 hO3)
        refine hv_loc [1, 2, 3, 0] [(0, .ref (b + 24)), (1, .ref (b + 1)), (2, .int (iz ((w : Nat) : Int))), (3, .int (iz ((w : Nat) : Int)))] rfl ?_
        exact L15 _ ((w : Nat) : Int) O1 (Nat.lt_succ_self _) (by omega) (by rw [Int.toNat_natCast]) (fun i z => hOr i (by omega)) (fun i z z2 => by omega)
  refine hv_loc [1, 2, 0] [(0, .ref (b + 24)), (1, .ref (b + 1)), (2, .int (iz 0))] rfl ?_
  refine zt_st (τ2 := sA τ 28 (τ 28)) ((sA_id τ 28).symm) ?_
  exact L2 _ 0 (τ 28) (Nat.lt_succ_self _) (by omega) rfl (fun i z => absurd z (Nat.not_lt_zero _))
set_option maxRecDepth 100000 in
set_option maxHeartbeats 4000000 in
theorem k_X10_orderWires_wb (l : Launch) {D : va_G} {ar : Nat → ClassId} {B : Nat → Prop} {b n : Nat} {w0 : zcW} (A : Nat → Int) (τ : Nat → Nat → Int)  (hA : ∀ i, inI (A i)) (hR : Rel9 ar b w0 A τ) (hc : cn A) (hwi : wi A) : zt_M l D ar B b w0 n yX10_orderWires cX10_orderWires 4 none 3 64 [.ref (b + 30), .ref (b + 1)] τ none (sA τ 34 (ow9 A (τ 34) (A 1).toNat)) := by
  refine zc_start (own := RX10) (by decide +kernel) rfl (Nat.le_of_ble_eq_true rfl) ?_
  intro p e s m args below meth c C K hr hlk hnam
  have n2 := hR.l2.1
  refine hv_iconst C dX10_orderWires_0 ?_
  refine hv_istore_n C 2 [(2, .int (iz 0)), (0, .ref (b + 30)), (1, .ref (b + 1))] dX10_orderWires_1 rfl (by decide) rfl ?_
  have L2 : ∀ (f : Nat) (w : Nat) (O1 : Nat → Int), (A 1).toNat - w < f → ((w : Int) ≤ A 1) → (O1 = ow9 A (τ 34) w) → (∀ i, i < w → 0 ≤ O1 i ∧ O1 i < (w : Int)) → hvV p l e { frames := 3, cells := 0, slots := 0, locals := 64 } s m args below meth c 4 B 0 0 (MQ below (zc_Q D B (fun r' w' n' => r' = none ∧ w' = cw ar b (sA τ 34 (ow9 A (τ 34) (A 1).toNat)) w0 ∧ n' = n)) args s 0 0 B) (zc_I D B (cw ar b (sA τ 34 O1) w0) n s.heap) 2 [(0, .ref (b + 30)), (1, .ref (b + 1)), (2, .int (iz ((w : Nat) : Int)))] [] := by
    intro f
    induction f with
    | zero => intro _ _ hm; exact absurd hm (Nat.not_lt_zero _)
    | succ f ih2 =>
      intro w O1 hm2 hw hO1 hOr
      refine hv_iload_n C 2 2 dX10_orderWires_2 rfl rfl ?_
      refine hv_aload_n C 1 1 dX10_orderWires_3 rfl rfl ?_
      refine zc_get C K (v := .ref (b + 2)) 1 rfl hu_9 (by decide) (cw_at 1 rfl) rfl fl_X10_86 rfl dX10_orderWires_4 ?_
      refine zt_callV [] [.int (iz ((w : Nat) : Int))] C K (cw_at 2 rfl) rfl (k_Jx4a65c_size_8abf5 l 2 (sA τ 34 O1)  rfl) ck_X10_41 (by decide) ⟨Nat.zero_le _, Nat.zero_le _⟩ rfl (Nat.le_of_ble_eq_true rfl) dX10_orderWires_7 ?_
      refine hv_as ((τ 2 2)) rfl ?_
      refine hv_nm (fun x1 ex1 => ?_)
      have rx1 : inI x1 := by rw [ex1]; exact (by have z := hA 1; omega)
      refine hv_icmp_ge C 90 dX10_orderWires_10 (by decide) (by omega) (by omega) (fun h10 => ?_) (fun h10 => ?_)
      · skip
        exact zt_vret C hr hlk (by rw [hO1, show w = (A 1).toNat by omega]) dX10_orderWires_90
      · skip
        refine hv_iload_n C 2 2 dX10_orderWires_13 rfl rfl ?_
        refine hv_istore_n C 3 [(3, .int (iz ((w : Nat) : Int))), (0, .ref (b + 30)), (1, .ref (b + 1)), (2, .int (iz ((w : Nat) : Int)))] dX10_orderWires_14 rfl (by decide) rfl ?_
        have L15 : ∀ (f : Nat) (k : Int) (O2 : Nat → Int), k.toNat < f → (0 ≤ k ∧ k ≤ (w : Int)) → (is9 A w k.toNat O2 = is9 A w w O1) → (∀ i : Nat, (i : Int) < k → 0 ≤ O2 i ∧ O2 i < (w : Int)) → (∀ i : Nat, k < (i : Int) → i ≤ w → 0 ≤ O2 i ∧ O2 i < (w : Int)) → hvV p l e { frames := 3, cells := 0, slots := 0, locals := 64 } s m args below meth c 4 B 0 0 (MQ below (zc_Q D B (fun r' w' n' => r' = none ∧ w' = cw ar b (sA τ 34 (ow9 A (τ 34) (A 1).toNat)) w0 ∧ n' = n)) args s 0 0 B) (zc_I D B (cw ar b (sA τ 34 O2) w0) n s.heap) 15 [(0, .ref (b + 30)), (1, .ref (b + 1)), (2, .int (iz ((w : Nat) : Int))), (3, .int (iz k))] [] := by
          intro f
          induction f with
          | zero => intro _ _ hm; exact absurd hm (Nat.not_lt_zero _)
          | succ f ih15 =>
            intro k O2 hm15 hk hr9 hO2 hO3
            refine hv_iload_n C 3 3 dX10_orderWires_15 rfl rfl ?_
            refine hv_if_le C 77 dX10_orderWires_16 (by decide) (by omega) (fun h16 => ?_) (fun h16 => ?_)
            · skip
              obtain ⟨kn, rfl⟩ : ∃ n9 : Nat, k = (n9 : Int) := ⟨(k).toNat, by omega⟩
              refine hv_aload_n C 0 0 dX10_orderWires_77 rfl rfl ?_
              refine zc_get C K (v := .ref (b + 34)) 3 rfl hu_11 (by decide) (cw_at 30 rfl) rfl fl_X10_21 rfl dX10_orderWires_78 ?_
              refine hv_iload_n C 3 3 dX10_orderWires_81 rfl rfl ?_
              refine hv_iload_n C 2 2 dX10_orderWires_82 rfl rfl ?_
              refine zc_iast C K (f := O2) kn (cw_at 34 rfl) (cw_set 34 kn ((w : Nat) : Int) rfl) (by omega) (by omega) (by decide) dX10_orderWires_83 ?_
              refine zt_st (τ2 := sA τ 34 (ua O2 kn ((w : Nat) : Int))) (by rw [u2_sA, sA_sA]; first | done | rfl) ?_
              refine hv_iinc C 2 2 [(2, .int (iz (((w : Nat) : Int) + 1))), (0, .ref (b + 30)), (1, .ref (b + 1)), (3, .int (iz ((kn : Nat) : Int)))] dX10_orderWires_84 rfl (by decide) rfl ?_
              refine hv_goto C 2 dX10_orderWires_87 (by decide) ?_
              refine hv_loc [1, 2, 0] [(0, .ref (b + 30)), (1, .ref (b + 1)), (2, .int (iz (((w : Nat) : Int) + 1)))] rfl ?_
              exact ih2 (w + 1) (ua O2 kn ((w : Nat) : Int)) (by omega) (by omega) (ow9_s hO1 (by first | exact hr9 | (rw [Int.toNat_natCast] at hr9; exact hr9)) (by first | omega | (rw [zq1]; omega))) (ow9_r (fun i z => hO2 i (by omega)) (fun i z z2 => hO3 i (by omega) z2))
            · skip
              obtain ⟨kn, rfl⟩ : ∃ n9 : Nat, k = (n9 : Int) := ⟨(k).toNat, by omega⟩
              have zo1 := hO2 (kn - 1) (by omega)
              rw [Int.toNat_natCast] at hr9
              refine hv_aload_n C 1 1 dX10_orderWires_19 rfl rfl ?_
              refine zc_get C K (v := .ref (b + 2)) 1 rfl hu_9 (by decide) (cw_at 1 rfl) rfl fl_X10_86 rfl dX10_orderWires_20 ?_
              refine hv_aload_n C 0 0 dX10_orderWires_23 rfl rfl ?_
              refine zc_get C K (v := .ref (b + 34)) 3 rfl hu_11 (by decide) (cw_at 30 rfl) rfl fl_X10_21 rfl dX10_orderWires_24 ?_
              refine hv_iload_n C 3 3 dX10_orderWires_27 rfl rfl ?_
              refine hv_iconst C dX10_orderWires_28 ?_
              refine hv_isub C dX10_orderWires_29 ?_
              refine hv_as (((kn - 1 : Nat) : Int)) (by omega) ?_
              refine zc_iald C K (f := O2) (kn - 1) (cw_at 34 rfl) (by omega) (by omega) (by decide) dX10_orderWires_30 ?_
              refine hv_nm (fun x2 ex2 => ?_)
              obtain ⟨oN, rfl⟩ : ∃ n9 : Nat, x2 = (n9 : Int) := ⟨(x2).toNat, by omega⟩
              have zq1 : (O2 (kn - 1)).toNat = oN := by omega
              have zw1 := hwi oN (by omega)
              have zw2 := hwi w (by omega)
              obtain ⟨p3, i3, o3⟩ := ((by repeat (first | exact hR | refine rl_sA (by decide) ?_)) : Rel9 ar b w0 A (sA τ 34 O2)).l2.2 oN (by omega)
              refine zt_callV [.int (iz ((oN : Nat) : Int))] [] C K (cw_at 2 rfl) rfl (k_Jx4a65c_get_915e3 l 2 p3 (sA τ 34 O2) oN rfl i3) ck_X10_54 (by decide) ⟨Nat.zero_le _, Nat.zero_le _⟩ rfl (Nat.le_of_ble_eq_true rfl) dX10_orderWires_31 ?_
              refine zc_cast C K (cw_ob o3) (hc := rfl) cl_X10_89 dX10_orderWires_34 ?_
              refine zc_get C K (v := .int (iz (A (30 + 4 * oN + 2)))) 2 rfl hu_10 (by decide) (cw_ob o3) rfl fl_X10_91 rfl dX10_orderWires_37 ?_
              refine hv_nm (fun x4 ex4 => ?_)
              have rx4 : inI x4 := by rw [ex4]; exact (hA _)
              refine hv_aload_n C 1 1 dX10_orderWires_40 rfl rfl ?_
              refine zc_get C K (v := .ref (b + 2)) 1 rfl hu_9 (by decide) (cw_at 1 rfl) rfl fl_X10_86 rfl dX10_orderWires_41 ?_
              refine hv_iload_n C 2 2 dX10_orderWires_44 rfl rfl ?_
              obtain ⟨p5, i5, o5⟩ := ((by repeat (first | exact hR | refine rl_sA (by decide) ?_)) : Rel9 ar b w0 A (sA τ 34 O2)).l2.2 w (by omega)
              refine zt_callV [.int (iz ((w : Nat) : Int))] [.int (iz x4)] C K (cw_at 2 rfl) rfl (k_Jx4a65c_get_915e3 l 2 p5 (sA τ 34 O2) w rfl i5) ck_X10_54 (by decide) ⟨Nat.zero_le _, Nat.zero_le _⟩ rfl (Nat.le_of_ble_eq_true rfl) dX10_orderWires_45 ?_
              refine zc_cast C K (cw_ob o5) (hc := rfl) cl_X10_89 dX10_orderWires_48 ?_
              refine zc_get C K (v := .int (iz (A (30 + 4 * w + 2)))) 2 rfl hu_10 (by decide) (cw_ob o5) rfl fl_X10_91 rfl dX10_orderWires_51 ?_
              refine hv_nm (fun x6 ex6 => ?_)
              have rx6 : inI x6 := by rw [ex6]; exact (hA _)
              refine hv_icmp_le C 77 dX10_orderWires_54 (by decide) (by omega) (by omega) (fun h54 => ?_) (fun h54 => ?_)
              · skip
                refine hv_aload_n C 0 0 dX10_orderWires_77 rfl rfl ?_
                refine zc_get C K (v := .ref (b + 34)) 3 rfl hu_11 (by decide) (cw_at 30 rfl) rfl fl_X10_21 rfl dX10_orderWires_78 ?_
                refine hv_iload_n C 3 3 dX10_orderWires_81 rfl rfl ?_
                refine hv_iload_n C 2 2 dX10_orderWires_82 rfl rfl ?_
                refine zc_iast C K (f := O2) kn (cw_at 34 rfl) (cw_set 34 kn ((w : Nat) : Int) rfl) (by omega) (by omega) (by decide) dX10_orderWires_83 ?_
                refine zt_st (τ2 := sA τ 34 (ua O2 kn ((w : Nat) : Int))) (by rw [u2_sA, sA_sA]; first | done | rfl) ?_
                refine hv_iinc C 2 2 [(2, .int (iz (((w : Nat) : Int) + 1))), (0, .ref (b + 30)), (1, .ref (b + 1)), (3, .int (iz ((kn : Nat) : Int)))] dX10_orderWires_84 rfl (by decide) rfl ?_
                refine hv_goto C 2 dX10_orderWires_87 (by decide) ?_
                refine hv_loc [1, 2, 0] [(0, .ref (b + 30)), (1, .ref (b + 1)), (2, .int (iz (((w : Nat) : Int) + 1)))] rfl ?_
                exact ih2 (w + 1) (ua O2 kn ((w : Nat) : Int)) (by omega) (by omega) (ow9_s hO1 (by first | exact hr9 | (rw [Int.toNat_natCast] at hr9; exact hr9)) (by first | omega | (rw [zq1]; omega))) (ow9_r (fun i z => hO2 i (by omega)) (fun i z z2 => hO3 i (by omega) z2))
              · skip
                refine hv_aload_n C 0 0 dX10_orderWires_57 rfl rfl ?_
                refine zc_get C K (v := .ref (b + 34)) 3 rfl hu_11 (by decide) (cw_at 30 rfl) rfl fl_X10_21 rfl dX10_orderWires_58 ?_
                refine hv_iload_n C 3 3 dX10_orderWires_61 rfl rfl ?_
                refine hv_aload_n C 0 0 dX10_orderWires_62 rfl rfl ?_
                refine zc_get C K (v := .ref (b + 34)) 3 rfl hu_11 (by decide) (cw_at 30 rfl) rfl fl_X10_21 rfl dX10_orderWires_63 ?_
                refine hv_iload_n C 3 3 dX10_orderWires_66 rfl rfl ?_
                refine hv_iconst C dX10_orderWires_67 ?_
                refine hv_isub C dX10_orderWires_68 ?_
                refine hv_as (((kn - 1 : Nat) : Int)) (by omega) ?_
                refine zc_iald C K (f := O2) (kn - 1) (cw_at 34 rfl) (by omega) (by omega) (by decide) dX10_orderWires_69 ?_
                refine hv_nm (fun x7 ex7 => ?_)
                refine zc_iast C K (f := O2) kn (cw_at 34 rfl) (cw_set 34 kn x7 rfl) (by omega) (by omega) (by decide) dX10_orderWires_70 ?_
                refine zt_st (τ2 := sA τ 34 (ua O2 kn x7)) (by rw [u2_sA, sA_sA]; first | done | rfl) ?_
                refine hv_iinc C 3 3 [(3, .int (iz (((kn : Nat) : Int) + (-1)))), (0, .ref (b + 30)), (1, .ref (b + 1)), (2, .int (iz ((w : Nat) : Int)))] dX10_orderWires_71 rfl (by decide) rfl ?_
                refine hv_goto C 15 dX10_orderWires_74 (by decide) ?_
                refine hv_loc [1, 2, 3, 0] [(0, .ref (b + 30)), (1, .ref (b + 1)), (2, .int (iz ((w : Nat) : Int))), (3, .int (iz (((kn : Nat) : Int) + (-1))))] rfl ?_
                exact ih15 (((kn : Nat) : Int) + (-1)) (ua O2 kn x7) (by omega) (by omega) (is9_j hr9 (by omega) (by rw [zq1]; omega) (by assumption)) (fun i z => by rw [ua_ne _ _ (by omega)]; exact hO2 i (by omega)) (ow9_t (by assumption) (by omega) hO2 hO3)
        refine hv_loc [1, 2, 3, 0] [(0, .ref (b + 30)), (1, .ref (b + 1)), (2, .int (iz ((w : Nat) : Int))), (3, .int (iz ((w : Nat) : Int)))] rfl ?_
        exact L15 _ ((w : Nat) : Int) O1 (Nat.lt_succ_self _) (by omega) (by rw [Int.toNat_natCast]) (fun i z => hOr i (by omega)) (fun i z z2 => by omega)
  refine hv_loc [1, 2, 0] [(0, .ref (b + 30)), (1, .ref (b + 1)), (2, .int (iz 0))] rfl ?_
  refine zt_st (τ2 := sA τ 34 (τ 34)) ((sA_id τ 34).symm) ?_
  exact L2 _ 0 (τ 34) (Nat.lt_succ_self _) (by omega) rfl (fun i z => absurd z (Nat.not_lt_zero _))
