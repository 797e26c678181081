theorem ua_mid {F : Nat → Int} {i k : Nat} {a b v : Int} (h : i ≠ k) : ua (ua (ua F i a) k b) i v = ua (ua F i v) k b := by rw [ua_comm (i := k) (k := i) (fun e => h e.symm), ua_ua]
def su9 (f : Nat → Int) : Nat → Int
  | 0 => 0
  | n + 1 => su9 f n + f n
theorem su9_ua (f : Nat → Int) (i : Nat) (v : Int) : ∀ n : Nat, su9 (ua f i v) n = su9 f n + (if i < n then v - f i else 0)
  | 0 => by rw [if_neg (Nat.not_lt_zero _)]; rfl
  | n + 1 => by
    show su9 (ua f i v) n + ua f i v n = su9 f n + f n + _
    rw [su9_ua f i v n]
    unfold ua
    by_cases e : n = i
    · subst e; rw [if_pos rfl, if_neg (Nat.lt_irrefl _), if_pos (Nat.lt_succ_self _)]; omega
    · rw [if_neg e]
      by_cases g : i < n
      · rw [if_pos g, if_pos (by omega)]; omega
      · rw [if_neg g, if_neg (by omega)]; omega
theorem su9_le {f : Nat → Int} : ∀ n : Nat, (∀ i, i < n → 0 ≤ f i) → (∀ i, i < n → f i ≤ su9 f n) ∧ 0 ≤ su9 f n
  | 0, _ => ⟨fun i h => absurd h (Nat.not_lt_zero _), Int.le_refl 0⟩
  | n + 1, h => by
    have a := su9_le n (fun i q => h i (by omega))
    have b := h n (by omega)
    refine ⟨fun i q => ?_, ?_⟩
    · show f i ≤ su9 f n + f n
      by_cases e : i = n
      · rw [e]; omega
      · have := a.1 i (by omega); omega
    · show 0 ≤ su9 f n + f n
      omega
theorem su9_zt (f : Nat → Int) : ∀ n w : Nat, n ≤ w → su9 (zt f w) n = 0
  | 0, w, _ => rfl
  | n + 1, w, h => by
    show su9 (zt f w) n + zt f w n = 0
    rw [su9_zt f n w (by omega), zt_0 f w n (by omega)]; rfl
theorem s7q_v (f : Nat → Int) : ∀ w i : Nat, i < w → s7q f w i = 7
  | 0, i, h => absurd h (Nat.not_lt_zero _)
  | w + 1, i, h => by
    unfold s7q ua
    split
    · rfl
    · exact s7q_v f w i (by omega)
theorem wdS_v {Pl Pu Sp : Nat → Int} (hp : ∀ i, i < 13 → 0 ≤ Pl i ∧ 0 ≤ Pu i) : ∀ v : Nat, v ≤ 13 → su9 (wdS Pl Pu Sp v).1 13 = su9 Pl 13 ∧ su9 (wdS Pl Pu Sp v).2 13 = su9 Pu 13 ∧ ∀ i, i < 13 → 0 ≤ (wdS Pl Pu Sp v).1 i ∧ 0 ≤ (wdS Pl Pu Sp v).2 i
  | 0, _ => ⟨rfl, rfl, hp⟩
  | v + 1, h => by
    have a := wdS_v (Sp := Sp) hp v (by omega)
    unfold wdS
    split
    · next c =>
      have hv : v < 12 := by omega
      have a0 := a.2.2 v (by omega)
      have a1 := a.2.2 12 (by omega)
      refine ⟨?_, ?_, fun i q => ?_⟩
      · show su9 (ua (ua (wdS Pl Pu Sp v).1 12 ((wdS Pl Pu Sp v).1 12 + (wdS Pl Pu Sp v).1 v)) v 0) 13 = _
        rw [su9_ua, su9_ua, if_pos (by omega), if_pos (by omega), ua_ne _ _ (by omega)]
        omega
      · show su9 (ua (ua (wdS Pl Pu Sp v).2 12 ((wdS Pl Pu Sp v).2 12 + (wdS Pl Pu Sp v).2 v)) v 0) 13 = _
        rw [su9_ua, su9_ua, if_pos (by omega), if_pos (by omega), ua_ne _ _ (by omega)]
        omega
      · have ai := a.2.2 i q
        show 0 ≤ ua (ua (wdS Pl Pu Sp v).1 12 ((wdS Pl Pu Sp v).1 12 + (wdS Pl Pu Sp v).1 v)) v 0 i ∧ 0 ≤ ua (ua (wdS Pl Pu Sp v).2 12 ((wdS Pl Pu Sp v).2 12 + (wdS Pl Pu Sp v).2 v)) v 0 i
        unfold ua
        constructor
        · split
          · omega
          · split <;> omega
        · split
          · omega
          · split <;> omega
    · exact a
theorem cwZ9_r (Ah Bh : Nat → Int) (w : Nat) : ∀ h : Nat, (0 ≤ (cwZ9 Ah Bh w h).1 ∧ (cwZ9 Ah Bh w h).1 ≤ (h : Int)) ∧ (0 ≤ (cwZ9 Ah Bh w h).2.1 ∧ (cwZ9 Ah Bh w h).2.1 ≤ (h : Int)) ∧ (0 ≤ (cwZ9 Ah Bh w h).2.2 ∧ (cwZ9 Ah Bh w h).2.2 ≤ (h : Int))
  | 0 => ⟨⟨Int.le_refl 0, Int.le_refl 0⟩, ⟨Int.le_refl 0, Int.le_refl 0⟩, Int.le_refl 0, Int.le_refl 0⟩
  | h + 1 => by
    have a := cwZ9_r Ah Bh w h
    have b := pb9_r Ah w h
    rw [cwZ9_1, cwZ9_2, cwZ9_3]
    refine ⟨by omega, ?_, ?_⟩
    · split <;> omega
    · split <;> omega
theorem cpS_v {A : Nat → Int} (hwi : wi A) (h12 : A 1 ≤ 12) (Ah Bh P Q R : Nat → Int) : ∀ w : Nat, (w : Int) ≤ A 1 → (cpS A Ah Bh (zt P 13) (zt Q 13) (s7q R 13) w).1 = su9 (cpS A Ah Bh (zt P 13) (zt Q 13) (s7q R 13) w).2.2.1 13 ∧ (cpS A Ah Bh (zt P 13) (zt Q 13) (s7q R 13) w).2.1 = su9 (cpS A Ah Bh (zt P 13) (zt Q 13) (s7q R 13) w).2.2.2.1 13 ∧ (∀ i, i < 13 → (0 ≤ (cpS A Ah Bh (zt P 13) (zt Q 13) (s7q R 13) w).2.2.1 i ∧ (cpS A Ah Bh (zt P 13) (zt Q 13) (s7q R 13) w).2.2.1 i ≤ 24) ∧ (0 ≤ (cpS A Ah Bh (zt P 13) (zt Q 13) (s7q R 13) w).2.2.2.1 i ∧ (cpS A Ah Bh (zt P 13) (zt Q 13) (s7q R 13) w).2.2.2.1 i ≤ 24) ∧ (-100 ≤ (cpS A Ah Bh (zt P 13) (zt Q 13) (s7q R 13) w).2.2.2.2 i ∧ (cpS A Ah Bh (zt P 13) (zt Q 13) (s7q R 13) w).2.2.2.2 i ≤ 100) ∧ (w ≤ i → (cpS A Ah Bh (zt P 13) (zt Q 13) (s7q R 13) w).2.2.1 i = 0 ∧ (cpS A Ah Bh (zt P 13) (zt Q 13) (s7q R 13) w).2.2.2.1 i = 0)) ∧ (cpS A Ah Bh (zt P 13) (zt Q 13) (s7q R 13) w).1 ≤ 24 * (w : Int) ∧ (cpS A Ah Bh (zt P 13) (zt Q 13) (s7q R 13) w).2.1 ≤ 24 * (w : Int)
  | 0, _ => by
    refine ⟨(su9_zt P 13 13 (Nat.le_refl _)).symm, (su9_zt Q 13 13 (Nat.le_refl _)).symm, fun i q => ?_, Int.le_refl 0, Int.le_refl 0⟩
    show (0 ≤ zt P 13 i ∧ zt P 13 i ≤ 24) ∧ (0 ≤ zt Q 13 i ∧ zt Q 13 i ≤ 24) ∧ (-100 ≤ s7q R 13 i ∧ s7q R 13 i ≤ 100) ∧ (0 ≤ i → zt P 13 i = 0 ∧ zt Q 13 i = 0)
    rw [zt_0 P 13 i q, zt_0 Q 13 i q, s7q_v R 13 i q]
    omega
  | w + 1, h => by
    obtain ⟨a1, a2, a3, a4, a5⟩ := cpS_v hwi h12 Ah Bh P Q R w (by omega)
    have c := cwZ9_r Ah Bh w 24
    have hw := hwi w (by omega)
    have z := a3 w (by omega)
    have z0 := z.2.2.2 (Nat.le_refl _)
    unfold cpS
    generalize cpS A Ah Bh (zt P 13) (zt Q 13) (s7q R 13) w = g at *
    generalize cwZ9 Ah Bh w 24 = k at *
    refine ⟨?_, ?_, fun i q => ?_, ?_, ?_⟩
    · show g.1 + (g.2.2.1 w + k.2.1) = su9 (ua g.2.2.1 w (g.2.2.1 w + k.2.1)) 13
      rw [su9_ua, if_pos (by omega)]; omega
    · show g.2.1 + (g.2.2.2.1 w + k.2.2) = su9 (ua g.2.2.2.1 w (g.2.2.2.1 w + k.2.2)) 13
      rw [su9_ua, if_pos (by omega)]; omega
    · have y := a3 i q
      show (0 ≤ ua g.2.2.1 w (g.2.2.1 w + k.2.1) i ∧ ua g.2.2.1 w (g.2.2.1 w + k.2.1) i ≤ 24) ∧ (0 ≤ ua g.2.2.2.1 w (g.2.2.2.1 w + k.2.2) i ∧ ua g.2.2.2.1 w (g.2.2.2.1 w + k.2.2) i ≤ 24) ∧ (-100 ≤ ua g.2.2.2.2 w (A (30 + 4 * w + 3) - k.1) i ∧ ua g.2.2.2.2 w (A (30 + 4 * w + 3) - k.1) i ≤ 100) ∧ (w + 1 ≤ i → ua g.2.2.1 w (g.2.2.1 w + k.2.1) i = 0 ∧ ua g.2.2.2.1 w (g.2.2.2.1 w + k.2.2) i = 0)
      by_cases e : i = w
      · subst e; rw [ua_at, ua_at, ua_at]; omega
      · rw [ua_ne _ _ e, ua_ne _ _ e, ua_ne _ _ e]
        refine ⟨y.1, y.2.1, y.2.2.1, fun q => y.2.2.2 (by omega)⟩
    · show g.1 + (g.2.2.1 w + k.2.1) ≤ _
      omega
    · show g.2.1 + (g.2.2.2.1 w + k.2.2) ≤ _
      omega
def lsV (Pl Pu Sp B1 B2 F ou : Nat → Int) (hn : Nat) (p q : Int) : Int := if 7 < p + q then -1 else if (zbB (wdS Pl Pu Sp 13).1 (wdS Pl Pu Sp 13).2 Sp hn ((2 * p + 3 * q + (hn : Int) - 1) / (hn : Int)) (p + q).toNat 0 0 (zt B1 13) (zt B2 13) (zt F 3) (ou, 1000000000)).2 = 1000000000 then -1 else (zbB (wdS Pl Pu Sp 13).1 (wdS Pl Pu Sp 13).2 Sp hn ((2 * p + 3 * q + (hn : Int) - 1) / (hn : Int)) (p + q).toNat 0 0 (zt B1 13) (zt B2 13) (zt F 3) (ou, 1000000000)).2
theorem lsI {Pl Pu Sp B1 B2 ou F : Nat → Int} {nn : Nat} (h7 : nn ≤ 7) (h41 : ∀ i, i < 13 → -100 ≤ Sp i ∧ Sp i ≤ 100) (hw : ∀ w, w < 13 → (0 ≤ Pl w ∧ Pl w ≤ 7) ∧ (0 ≤ Pu w ∧ Pu w ≤ 7)) : zbI nn 0 0 Pl Pu (zt B1 13) (zt B2 13) Sp ou (zt F 3) 1000000000 := by
  refine ⟨⟨h7, by omega, by omega, by omega⟩, fun w q => ?_, fun i q => ?_, fun w k q1 q2 q3 => ?_⟩
  · rw [zt_0 B1 13 w q, zt_0 B2 13 w q]
    exact ⟨by omega, by omega, (hw w q).1, (hw w q).2, h41 w q⟩
  · rw [zt_0 F 3 i q]; omega
  · rw [zt_0 B1 13 w q1] at q3; omega
theorem chW {Pl Pu Sp : Nat → Int} {x y : Int} (hx : x = su9 Pl 13) (hy : y = su9 Pu 13) (hp : ∀ i, i < 13 → 0 ≤ Pl i ∧ 0 ≤ Pu i) (h7 : x + y ≤ 7) : ∀ w, w < 13 → (0 ≤ (wdS Pl Pu Sp 13).1 w ∧ (wdS Pl Pu Sp 13).1 w ≤ 7) ∧ (0 ≤ (wdS Pl Pu Sp 13).2 w ∧ (wdS Pl Pu Sp 13).2 w ≤ 7) := by
  intro w q
  obtain ⟨e1, e2, e3⟩ := wdS_v (Sp := Sp) hp 13 (Nat.le_refl _)
  have y1 := su9_le 13 (fun i q => (e3 i q).1)
  have y2 := su9_le 13 (fun i q => (e3 i q).2)
  have z1 := y1.1 w q
  have z2 := y2.1 w q
  have z3 := e3 w q
  have z4 := y1.2
  have z5 := y2.2
  omega

theorem dX6_leastSeconds_0 : decode cX6_leastSeconds 0 = .ok (.aload_n 0, 1) := by decide +kernel
theorem dX6_leastSeconds_1 : decode cX6_leastSeconds 1 = .ok (.getfield 33, 3) := by decide +kernel
theorem dX6_leastSeconds_4 : decode cX6_leastSeconds 4 = .ok (.aload_n 0, 1) := by decide +kernel
theorem dX6_leastSeconds_5 : decode cX6_leastSeconds 5 = .ok (.getfield 37, 3) := by decide +kernel
theorem dX6_leastSeconds_8 : decode cX6_leastSeconds 8 = .ok (.iadd, 1) := by decide +kernel
theorem dX6_leastSeconds_9 : decode cX6_leastSeconds 9 = .ok (.bipush 7, 2) := by decide +kernel
theorem dX6_leastSeconds_11 : decode cX6_leastSeconds 11 = .ok (.if_icmp .gt 13, 3) := by decide +kernel
theorem dX6_leastSeconds_14 : decode cX6_leastSeconds 14 = .ok (.iload_n 1, 1) := by decide +kernel
theorem dX6_leastSeconds_15 : decode cX6_leastSeconds 15 = .ok (.iconst 1, 1) := by decide +kernel
theorem dX6_leastSeconds_16 : decode cX6_leastSeconds 16 = .ok (.if_icmp .lt 8, 3) := by decide +kernel
theorem dX6_leastSeconds_19 : decode cX6_leastSeconds 19 = .ok (.iload_n 1, 1) := by decide +kernel
theorem dX6_leastSeconds_20 : decode cX6_leastSeconds 20 = .ok (.iconst 3, 1) := by decide +kernel
theorem dX6_leastSeconds_21 : decode cX6_leastSeconds 21 = .ok (.if_icmp .le 5, 3) := by decide +kernel
theorem dX6_leastSeconds_24 : decode cX6_leastSeconds 24 = .ok (.iconst (-1), 1) := by decide +kernel
theorem dX6_leastSeconds_25 : decode cX6_leastSeconds 25 = .ok (.ireturn, 1) := by decide +kernel
theorem dX6_leastSeconds_26 : decode cX6_leastSeconds 26 = .ok (.aload_n 0, 1) := by decide +kernel
theorem dX6_leastSeconds_27 : decode cX6_leastSeconds 27 = .ok (.iload_n 1, 1) := by decide +kernel
theorem dX6_leastSeconds_28 : decode cX6_leastSeconds 28 = .ok (.putfield 71, 3) := by decide +kernel
theorem dX6_leastSeconds_31 : decode cX6_leastSeconds 31 = .ok (.iconst 0, 1) := by decide +kernel
theorem dX6_leastSeconds_32 : decode cX6_leastSeconds 32 = .ok (.istore_n 2, 1) := by decide +kernel
theorem dX6_leastSeconds_33 : decode cX6_leastSeconds 33 = .ok (.iload_n 2, 1) := by decide +kernel
theorem dX6_leastSeconds_34 : decode cX6_leastSeconds 34 = .ok (.iconst 3, 1) := by decide +kernel
theorem dX6_leastSeconds_35 : decode cX6_leastSeconds 35 = .ok (.if_icmp .ge 16, 3) := by decide +kernel
theorem dX6_leastSeconds_38 : decode cX6_leastSeconds 38 = .ok (.aload_n 0, 1) := by decide +kernel
theorem dX6_leastSeconds_39 : decode cX6_leastSeconds 39 = .ok (.getfield 30, 3) := by decide +kernel
theorem dX6_leastSeconds_42 : decode cX6_leastSeconds 42 = .ok (.iload_n 2, 1) := by decide +kernel
theorem dX6_leastSeconds_43 : decode cX6_leastSeconds 43 = .ok (.iconst 0, 1) := by decide +kernel
theorem dX6_leastSeconds_44 : decode cX6_leastSeconds 44 = .ok (.iastore, 1) := by decide +kernel
theorem dX6_leastSeconds_45 : decode cX6_leastSeconds 45 = .ok (.iinc 2 1, 3) := by decide +kernel
theorem dX6_leastSeconds_48 : decode cX6_leastSeconds 48 = .ok (.goto (-15), 3) := by decide +kernel
theorem dX6_leastSeconds_51 : decode cX6_leastSeconds 51 = .ok (.aload_n 0, 1) := by decide +kernel
theorem dX6_leastSeconds_52 : decode cX6_leastSeconds 52 = .ok (.invokevirtual 74, 3) := by decide +kernel
theorem dX6_leastSeconds_55 : decode cX6_leastSeconds 55 = .ok (.aload_n 0, 1) := by decide +kernel
theorem dX6_leastSeconds_56 : decode cX6_leastSeconds 56 = .ok (.ldc 77, 2) := by decide +kernel
theorem dX6_leastSeconds_58 : decode cX6_leastSeconds 58 = .ok (.putfield 78, 3) := by decide +kernel
theorem dX6_leastSeconds_61 : decode cX6_leastSeconds 61 = .ok (.aload_n 0, 1) := by decide +kernel
theorem dX6_leastSeconds_62 : decode cX6_leastSeconds 62 = .ok (.iconst 2, 1) := by decide +kernel
theorem dX6_leastSeconds_63 : decode cX6_leastSeconds 63 = .ok (.aload_n 0, 1) := by decide +kernel
theorem dX6_leastSeconds_64 : decode cX6_leastSeconds 64 = .ok (.getfield 33, 3) := by decide +kernel
theorem dX6_leastSeconds_67 : decode cX6_leastSeconds 67 = .ok (.imul, 1) := by decide +kernel
theorem dX6_leastSeconds_68 : decode cX6_leastSeconds 68 = .ok (.iconst 3, 1) := by decide +kernel
theorem dX6_leastSeconds_69 : decode cX6_leastSeconds 69 = .ok (.aload_n 0, 1) := by decide +kernel
theorem dX6_leastSeconds_70 : decode cX6_leastSeconds 70 = .ok (.getfield 37, 3) := by decide +kernel
theorem dX6_leastSeconds_73 : decode cX6_leastSeconds 73 = .ok (.imul, 1) := by decide +kernel
theorem dX6_leastSeconds_74 : decode cX6_leastSeconds 74 = .ok (.iadd, 1) := by decide +kernel
theorem dX6_leastSeconds_75 : decode cX6_leastSeconds 75 = .ok (.aload_n 0, 1) := by decide +kernel
theorem dX6_leastSeconds_76 : decode cX6_leastSeconds 76 = .ok (.getfield 71, 3) := by decide +kernel
theorem dX6_leastSeconds_79 : decode cX6_leastSeconds 79 = .ok (.iadd, 1) := by decide +kernel
theorem dX6_leastSeconds_80 : decode cX6_leastSeconds 80 = .ok (.iconst 1, 1) := by decide +kernel
theorem dX6_leastSeconds_81 : decode cX6_leastSeconds 81 = .ok (.isub, 1) := by decide +kernel
theorem dX6_leastSeconds_82 : decode cX6_leastSeconds 82 = .ok (.aload_n 0, 1) := by decide +kernel
theorem dX6_leastSeconds_83 : decode cX6_leastSeconds 83 = .ok (.getfield 71, 3) := by decide +kernel
theorem dX6_leastSeconds_86 : decode cX6_leastSeconds 86 = .ok (.idiv, 1) := by decide +kernel
theorem dX6_leastSeconds_87 : decode cX6_leastSeconds 87 = .ok (.putfield 81, 3) := by decide +kernel
theorem dX6_leastSeconds_90 : decode cX6_leastSeconds 90 = .ok (.aload_n 0, 1) := by decide +kernel
theorem dX6_leastSeconds_91 : decode cX6_leastSeconds 91 = .ok (.aload_n 0, 1) := by decide +kernel
theorem dX6_leastSeconds_92 : decode cX6_leastSeconds 92 = .ok (.getfield 33, 3) := by decide +kernel
theorem dX6_leastSeconds_95 : decode cX6_leastSeconds 95 = .ok (.aload_n 0, 1) := by decide +kernel
theorem dX6_leastSeconds_96 : decode cX6_leastSeconds 96 = .ok (.getfield 37, 3) := by decide +kernel
theorem dX6_leastSeconds_99 : decode cX6_leastSeconds 99 = .ok (.iadd, 1) := by decide +kernel
theorem dX6_leastSeconds_100 : decode cX6_leastSeconds 100 = .ok (.iconst 0, 1) := by decide +kernel
theorem dX6_leastSeconds_101 : decode cX6_leastSeconds 101 = .ok (.iconst 0, 1) := by decide +kernel
theorem dX6_leastSeconds_102 : decode cX6_leastSeconds 102 = .ok (.invokevirtual 84, 3) := by decide +kernel
theorem dX6_leastSeconds_105 : decode cX6_leastSeconds 105 = .ok (.aload_n 0, 1) := by decide +kernel
theorem dX6_leastSeconds_106 : decode cX6_leastSeconds 106 = .ok (.getfield 78, 3) := by decide +kernel
theorem dX6_leastSeconds_109 : decode cX6_leastSeconds 109 = .ok (.ldc 77, 2) := by decide +kernel
theorem dX6_leastSeconds_111 : decode cX6_leastSeconds 111 = .ok (.if_icmp .ne 7, 3) := by decide +kernel
theorem dX6_leastSeconds_114 : decode cX6_leastSeconds 114 = .ok (.iconst (-1), 1) := by decide +kernel
theorem dX6_leastSeconds_115 : decode cX6_leastSeconds 115 = .ok (.goto 7, 3) := by decide +kernel
theorem dX6_leastSeconds_118 : decode cX6_leastSeconds 118 = .ok (.aload_n 0, 1) := by decide +kernel
theorem dX6_leastSeconds_119 : decode cX6_leastSeconds 119 = .ok (.getfield 78, 3) := by decide +kernel
theorem dX6_leastSeconds_122 : decode cX6_leastSeconds 122 = .ok (.ireturn, 1) := by decide +kernel
theorem ck_X6_74 : zcV RX6 RX6 yX6_widen cX6_widen 2 none 74 0 := ⟨hk_tq4 221 (by decide +kernel) (by decide +kernel), hk_tq4 218 (by decide +kernel) (by decide +kernel), hk_tq1 9 (by decide +kernel) (by decide +kernel), ⟨by decide, by decide, by decide +kernel⟩, hk_tq4 220 (by decide +kernel) (by decide +kernel), hk_s 23 (by decide +kernel) (by decide +kernel)⟩
theorem lc_X6_77 : Cond.constant RX6 77 (iz 1000000000) ∈ hk_tb := hk_tq4 222 (by decide +kernel) (by decide +kernel)
set_option maxRecDepth 100000 in
set_option maxHeartbeats 4000000 in
theorem k_X6_leastSeconds (l : Launch) {D : va_G} {ar : Nat → ClassId} {B : Nat → Prop} {b n : Nat} {w0 : zcW}  (τ : Nat → Nat → Int) (hn : Nat) (hn3 : 1 ≤ hn ∧ hn ≤ 3) (hpq : 0 ≤ τ 36 0 ∧ τ 36 0 ≤ 300 ∧ 0 ≤ τ 36 1 ∧ τ 36 1 ≤ 300) (h38 : ∀ i, i < 12 → inI (τ 38 i)) (h41 : ∀ i, i < 13 → -100 ≤ τ 41 i ∧ τ 41 i ≤ 100) (hwd : τ 36 0 + τ 36 1 ≤ 7 → ∀ w, w < 13 → (0 ≤ (wdS (τ 37) (τ 38) (τ 41) 13).1 w ∧ (wdS (τ 37) (τ 38) (τ 41) 13).1 w ≤ 7) ∧ (0 ≤ (wdS (τ 37) (τ 38) (τ 41) 13).2 w ∧ (wdS (τ 37) (τ 38) (τ 41) 13).2 w ≤ 7)) : zs_M l D ar B b w0 n yX6_leastSeconds cX6_leastSeconds 3 (some .int) 16 490 [.ref (b + 36), .int (iz ((hn : Nat) : Int))] τ (some (.int (iz (lsV (τ 37) (τ 38) (τ 41) (τ 39) (τ 40) (τ 43) (τ 42) hn (τ 36 0) (τ 36 1))))) (fun (X : Nat → Nat → Int) => sA (sA (sA (sA (sA (sA (sA τ 36 (X 36)) 37 (X 37)) 38 (X 38)) 39 (X 39)) 40 (X 40)) 42 (X 42)) 43 (X 43)) := by
  refine zc_start (own := RX6) (by decide +kernel) rfl (Nat.le_of_ble_eq_true rfl) ?_
  intro p e s m args below meth c C K hr hlk hnam
  refine hv_aload_n C 0 0 dX6_leastSeconds_0 rfl rfl ?_
  refine zc_get C K (v := .int (iz (τ 36 0))) 0 rfl hu_7 (by decide) (cw_at 36 rfl) rfl fl_X6_33 rfl dX6_leastSeconds_1 ?_
  refine hv_aload_n C 0 0 dX6_leastSeconds_4 rfl rfl ?_
  refine zc_get C K (v := .int (iz (τ 36 1))) 1 rfl hu_7 (by decide) (cw_at 36 rfl) rfl fl_X6_37 rfl dX6_leastSeconds_5 ?_
  refine hv_iadd C dX6_leastSeconds_8 ?_
  refine hv_bipush C dX6_leastSeconds_9 (by decide) ?_
  refine hv_icmp_gt C 24 dX6_leastSeconds_11 (by decide) (by omega) (by omega) (fun h11 => ?_) (fun h11 => ?_)
  · skip
    refine hv_iconst C dX6_leastSeconds_24 ?_
    exact zs_iret C hr hlk (by first | (unfold lsV; exact if_p (by omega) rfl) | (rw [zv]; first | exact if_p (by omega) rfl | exact if_n (by omega) rfl)) ⟨τ, by first | rfl | (funext j9; by_cases hj36 : j9 = 36; (subst hj36; first | rfl | (funext i9; simp only [sA, ua]; split <;> first | rfl | (subst_vars; rfl))); by_cases hj37 : j9 = 37; (subst hj37; first | rfl | (funext i9; simp only [sA, ua]; split <;> first | rfl | (subst_vars; rfl))); by_cases hj38 : j9 = 38; (subst hj38; first | rfl | (funext i9; simp only [sA, ua]; split <;> first | rfl | (subst_vars; rfl))); by_cases hj39 : j9 = 39; (subst hj39; first | rfl | (funext i9; simp only [sA, ua]; split <;> first | rfl | (subst_vars; rfl))); by_cases hj40 : j9 = 40; (subst hj40; first | rfl | (funext i9; simp only [sA, ua]; split <;> first | rfl | (subst_vars; rfl))); by_cases hj42 : j9 = 42; (subst hj42; first | rfl | (funext i9; simp only [sA, ua]; split <;> first | rfl | (subst_vars; rfl))); by_cases hj43 : j9 = 43; (subst hj43; first | rfl | (funext i9; simp only [sA, ua]; split <;> first | rfl | (subst_vars; rfl))); simp only [sA, if_neg hj36, if_neg hj37, if_neg hj38, if_neg hj39, if_neg hj40, if_neg hj42, if_neg hj43])⟩ dX6_leastSeconds_25
  · skip
    refine hv_iload_n C 1 1 dX6_leastSeconds_14 rfl rfl ?_
    refine hv_iconst C dX6_leastSeconds_15 ?_
    refine hv_icmp_lt C 24 dX6_leastSeconds_16 (by decide) (by omega) (by omega) (fun h16 => ?_) (fun h16 => ?_)
    · skip
      refine hv_iconst C dX6_leastSeconds_24 ?_
      exact zs_iret C hr hlk (by first | (unfold lsV; exact if_p (by omega) rfl) | (rw [zv]; first | exact if_p (by omega) rfl | exact if_n (by omega) rfl)) ⟨τ, by first | rfl | (funext j9; by_cases hj36 : j9 = 36; (subst hj36; first | rfl | (funext i9; simp only [sA, ua]; split <;> first | rfl | (subst_vars; rfl))); by_cases hj37 : j9 = 37; (subst hj37; first | rfl | (funext i9; simp only [sA, ua]; split <;> first | rfl | (subst_vars; rfl))); by_cases hj38 : j9 = 38; (subst hj38; first | rfl | (funext i9; simp only [sA, ua]; split <;> first | rfl | (subst_vars; rfl))); by_cases hj39 : j9 = 39; (subst hj39; first | rfl | (funext i9; simp only [sA, ua]; split <;> first | rfl | (subst_vars; rfl))); by_cases hj40 : j9 = 40; (subst hj40; first | rfl | (funext i9; simp only [sA, ua]; split <;> first | rfl | (subst_vars; rfl))); by_cases hj42 : j9 = 42; (subst hj42; first | rfl | (funext i9; simp only [sA, ua]; split <;> first | rfl | (subst_vars; rfl))); by_cases hj43 : j9 = 43; (subst hj43; first | rfl | (funext i9; simp only [sA, ua]; split <;> first | rfl | (subst_vars; rfl))); simp only [sA, if_neg hj36, if_neg hj37, if_neg hj38, if_neg hj39, if_neg hj40, if_neg hj42, if_neg hj43])⟩ dX6_leastSeconds_25
    · skip
      refine hv_iload_n C 1 1 dX6_leastSeconds_19 rfl rfl ?_
      refine hv_iconst C dX6_leastSeconds_20 ?_
      refine hv_icmp_le C 26 dX6_leastSeconds_21 (by decide) (by omega) (by omega) (fun h21 => ?_) (fun h21 => ?_)
      · skip
        have h41i : ∀ i, i < 12 → inI (τ 41 i) := fun i z => by have z2 := h41 i (by omega); exact ⟨by omega, by omega⟩
        obtain ⟨nn, enn⟩ : ∃ n9 : Nat, τ 36 0 + τ 36 1 = (n9 : Int) := ⟨(τ 36 0 + τ 36 1).toNat, by omega⟩
        refine hv_aload_n C 0 0 dX6_leastSeconds_26 rfl rfl ?_
        refine hv_iload_n C 1 1 dX6_leastSeconds_27 rfl rfl ?_
        refine zc_put C K 9 rfl hu_7 tyX6 tyX6_ok nmX6 (by decide) (cw_at 36 rfl) (cw_set 36 9 ((hn : Nat) : Int) rfl) fl_X6_71 rfl rfl (ty := .int) (by decide +kernel) rfl rfl (Nat.le_of_ble_eq_true rfl) dX6_leastSeconds_28 ?_
        refine zt_st (τ2 := sA τ 36 (ua (τ 36) 9 ((hn : Nat) : Int))) (by rw [u2_sA]; first | done | rfl) ?_
        refine hv_iconst C dX6_leastSeconds_31 ?_
        refine hv_istore_n C 2 [(2, .int (iz 0)), (0, .ref (b + 36)), (1, .int (iz ((hn : Nat) : Int)))] dX6_leastSeconds_32 rfl (by decide) rfl ?_
        have L33 : ∀ (f : Nat) (v : Nat) (F9 : Nat → Int), 3 - v < f → (v ≤ 3) → (F9 = zt (τ 43) v) → hvV p l e { frames := 16, cells := 0, slots := 0, locals := 490 } s m args below meth c 3 B 0 0 (MQ below (zc_Q D B (fun r' w' n' => r' = (some (.int (iz (lsV (τ 37) (τ 38) (τ 41) (τ 39) (τ 40) (τ 43) (τ 42) hn (τ 36 0) (τ 36 1))))) ∧ (∃ X : Nat → Nat → Int, w' = cw ar b (sA (sA (sA (sA (sA (sA (sA τ 36 (X 36)) 37 (X 37)) 38 (X 38)) 39 (X 39)) 40 (X 40)) 42 (X 42)) 43 (X 43)) w0) ∧ n' = n)) args s 0 0 B) (zc_I D B (cw ar b (sA (sA τ 36 (ua (τ 36) 9 ((hn : Nat) : Int))) 43 F9) w0) n s.heap) 33 [(0, .ref (b + 36)), (1, .int (iz ((hn : Nat) : Int))), (2, .int (iz ((v : Nat) : Int)))] [] := by
          intro f
          induction f with
          | zero => intro _ _ hm; exact absurd hm (Nat.not_lt_zero _)
          | succ f ih33 =>
            intro v F9 hm33 hv hF9
            refine hv_iload_n C 2 2 dX6_leastSeconds_33 rfl rfl ?_
            refine hv_iconst C dX6_leastSeconds_34 ?_
            refine hv_icmp_ge C 51 dX6_leastSeconds_35 (by decide) (by omega) (by omega) (fun h35 => ?_) (fun h35 => ?_)
            · skip
              refine hv_aload_n C 0 0 dX6_leastSeconds_51 rfl rfl ?_
              refine zt_callV [] [] C K (cw_at 36 rfl) rfl (k_X6_widen l  (sA (sA τ 36 (ua (τ 36) 9 ((hn : Nat) : Int))) 43 F9)  h38 h41i) ck_X6_74 ⟨by dsimp only; omega, by dsimp only; omega⟩ ⟨Nat.zero_le _, Nat.zero_le _⟩ rfl (Nat.le_of_ble_eq_true rfl) dX6_leastSeconds_52 ?_
              refine zt_st (τ2 := sA (sA (sA (sA (sA (sA τ 36 (ua (τ 36) 9 ((hn : Nat) : Int))) 37 (wdS (τ 37) (τ 38) (τ 41) 13).1) 38 (wdS (τ 37) (τ 38) (τ 41) 13).2) 39 (zt (τ 39) 13)) 40 (zt (τ 40) 13)) 43 F9) (by first | rfl | (funext j9; by_cases hj36 : j9 = 36; (subst hj36; first | rfl | exact ua_ua | exact ua_mid (by decide) | (funext i9; simp only [sA, ua]; (repeat' split) <;> first | rfl | (exfalso; omega) | (subst_vars; rfl))); by_cases hj37 : j9 = 37; (subst hj37; first | rfl | exact ua_ua | exact ua_mid (by decide) | (funext i9; simp only [sA, ua]; (repeat' split) <;> first | rfl | (exfalso; omega) | (subst_vars; rfl))); by_cases hj38 : j9 = 38; (subst hj38; first | rfl | exact ua_ua | exact ua_mid (by decide) | (funext i9; simp only [sA, ua]; (repeat' split) <;> first | rfl | (exfalso; omega) | (subst_vars; rfl))); by_cases hj39 : j9 = 39; (subst hj39; first | rfl | exact ua_ua | exact ua_mid (by decide) | (funext i9; simp only [sA, ua]; (repeat' split) <;> first | rfl | (exfalso; omega) | (subst_vars; rfl))); by_cases hj40 : j9 = 40; (subst hj40; first | rfl | exact ua_ua | exact ua_mid (by decide) | (funext i9; simp only [sA, ua]; (repeat' split) <;> first | rfl | (exfalso; omega) | (subst_vars; rfl))); by_cases hj43 : j9 = 43; (subst hj43; first | rfl | exact ua_ua | exact ua_mid (by decide) | (funext i9; simp only [sA, ua]; (repeat' split) <;> first | rfl | (exfalso; omega) | (subst_vars; rfl))); simp only [sA, if_neg hj36, if_neg hj37, if_neg hj38, if_neg hj39, if_neg hj40, if_neg hj43])) ?_
              refine hv_aload_n C 0 0 dX6_leastSeconds_55 rfl rfl ?_
              refine hv_ldc C (n := 1000000000) lc_X6_77 dX6_leastSeconds_56 ?_
              refine zc_put C K 10 rfl hu_7 tyX6 tyX6_ok nmX6 (by decide) (cw_at 36 rfl) (cw_set 36 10 1000000000 rfl) fl_X6_78 rfl rfl (ty := .int) (by decide +kernel) rfl rfl (Nat.le_of_ble_eq_true rfl) dX6_leastSeconds_58 ?_
              refine zt_st (τ2 := sA (sA (sA (sA (sA (sA τ 36 (ua (ua (τ 36) 9 ((hn : Nat) : Int)) 10 1000000000)) 37 (wdS (τ 37) (τ 38) (τ 41) 13).1) 38 (wdS (τ 37) (τ 38) (τ 41) 13).2) 39 (zt (τ 39) 13)) 40 (zt (τ 40) 13)) 43 F9) (by rw [u2_sA, sA_comm (j := 43) (k := 36) (by decide), sA_comm (j := 40) (k := 36) (by decide), sA_comm (j := 39) (k := 36) (by decide), sA_comm (j := 38) (k := 36) (by decide), sA_comm (j := 37) (k := 36) (by decide), sA_sA]; first | done | rfl) ?_
              refine hv_aload_n C 0 0 dX6_leastSeconds_61 rfl rfl ?_
              refine hv_iconst C dX6_leastSeconds_62 ?_
              refine hv_aload_n C 0 0 dX6_leastSeconds_63 rfl rfl ?_
              refine zc_get C K (v := .int (iz (τ 36 0))) 0 rfl hu_7 (by decide) (cw_at 36 rfl) rfl fl_X6_33 rfl dX6_leastSeconds_64 ?_
              refine hv_imul C dX6_leastSeconds_67 ?_
              refine hv_iconst C dX6_leastSeconds_68 ?_
              refine hv_aload_n C 0 0 dX6_leastSeconds_69 rfl rfl ?_
              refine zc_get C K (v := .int (iz (τ 36 1))) 1 rfl hu_7 (by decide) (cw_at 36 rfl) rfl fl_X6_37 rfl dX6_leastSeconds_70 ?_
              refine hv_imul C dX6_leastSeconds_73 ?_
              refine hv_iadd C dX6_leastSeconds_74 ?_
              refine hv_aload_n C 0 0 dX6_leastSeconds_75 rfl rfl ?_
              refine zc_get C K (v := .int (iz ((hn : Nat) : Int))) 9 rfl hu_7 (by decide) (cw_at 36 rfl) rfl fl_X6_71 rfl dX6_leastSeconds_76 ?_
              refine hv_iadd C dX6_leastSeconds_79 ?_
              refine hv_iconst C dX6_leastSeconds_80 ?_
              refine hv_isub C dX6_leastSeconds_81 ?_
              refine hv_aload_n C 0 0 dX6_leastSeconds_82 rfl rfl ?_
              refine zc_get C K (v := .int (iz ((hn : Nat) : Int))) 9 rfl hu_7 (by decide) (cw_at 36 rfl) rfl fl_X6_71 rfl dX6_leastSeconds_83 ?_
              refine hv_idiv C (by omega) (by omega) (by omega) (by omega) dX6_leastSeconds_86 ?_
              refine hv_nm (fun bd ebd => ?_)
              have hbr : inI bd := by rw [ebd]; rcases (by omega : hn = 1 ∨ hn = 2 ∨ hn = 3) with rfl | rfl | rfl <;> omega
              refine zc_put C K 11 rfl hu_7 tyX6 tyX6_ok nmX6 (by decide) (cw_at 36 rfl) (cw_set 36 11 bd rfl) fl_X6_81 rfl rfl (ty := .int) (by decide +kernel) rfl rfl (Nat.le_of_ble_eq_true rfl) dX6_leastSeconds_87 ?_
              refine zt_st (τ2 := sA (sA (sA (sA (sA (sA τ 36 (ua (ua (ua (τ 36) 9 ((hn : Nat) : Int)) 10 1000000000) 11 bd)) 37 (wdS (τ 37) (τ 38) (τ 41) 13).1) 38 (wdS (τ 37) (τ 38) (τ 41) 13).2) 39 (zt (τ 39) 13)) 40 (zt (τ 40) 13)) 43 F9) (by rw [u2_sA, sA_comm (j := 43) (k := 36) (by decide), sA_comm (j := 40) (k := 36) (by decide), sA_comm (j := 39) (k := 36) (by decide), sA_comm (j := 38) (k := 36) (by decide), sA_comm (j := 37) (k := 36) (by decide), sA_sA]; first | done | rfl) ?_
              refine hv_aload_n C 0 0 dX6_leastSeconds_90 rfl rfl ?_
              refine hv_aload_n C 0 0 dX6_leastSeconds_91 rfl rfl ?_
              refine zc_get C K (v := .int (iz (τ 36 0))) 0 rfl hu_7 (by decide) (cw_at 36 rfl) rfl fl_X6_33 rfl dX6_leastSeconds_92 ?_
              refine hv_aload_n C 0 0 dX6_leastSeconds_95 rfl rfl ?_
              refine zc_get C K (v := .int (iz (τ 36 1))) 1 rfl hu_7 (by decide) (cw_at 36 rfl) rfl fl_X6_37 rfl dX6_leastSeconds_96 ?_
              refine hv_iadd C dX6_leastSeconds_99 ?_
              refine hv_as (((nn : Nat) : Int)) (by omega) ?_
              refine hv_iconst C dX6_leastSeconds_100 ?_
              refine hv_iconst C dX6_leastSeconds_101 ?_
              refine zt_callV [.int (iz ((nn : Nat) : Int)), .int (iz 0), .int (iz 0)] [] C K (cw_at 36 rfl) rfl (zbK_all l hn3 hbr nn (sA (sA (sA (sA (sA (sA τ 36 (ua (ua (ua (τ 36) 9 ((hn : Nat) : Int)) 10 1000000000) 11 bd)) 37 (wdS (τ 37) (τ 38) (τ 41) 13).1) 38 (wdS (τ 37) (τ 38) (τ 41) 13).2) 39 (zt (τ 39) 13)) 40 (zt (τ 40) 13)) 43 F9) 0 0 rfl rfl (by rw [hF9, show v = 3 by omega]; exact lsI (by omega) h41 (hwd (by omega)))) ck_X6_84 ⟨by dsimp only; omega, by dsimp only; omega⟩ ⟨Nat.zero_le _, Nat.zero_le _⟩ rfl (Nat.le_of_ble_eq_true rfl) dX6_leastSeconds_102 ?_
              refine zt_st (τ2 := sA (sA (sA (sA (sA (sA (sA τ 36 (ua (ua (ua (τ 36) 9 ((hn : Nat) : Int)) 10 ((zbB (wdS (τ 37) (τ 38) (τ 41) 13).1 (wdS (τ 37) (τ 38) (τ 41) 13).2 (τ 41) hn bd nn 0 0 (zt (τ 39) 13) (zt (τ 40) 13) F9 ((τ 42), 1000000000)).2)) 11 bd)) 37 (wdS (τ 37) (τ 38) (τ 41) 13).1) 38 (wdS (τ 37) (τ 38) (τ 41) 13).2) 39 (zt (τ 39) 13)) 40 (zt (τ 40) 13)) 42 (zbB (wdS (τ 37) (τ 38) (τ 41) 13).1 (wdS (τ 37) (τ 38) (τ 41) 13).2 (τ 41) hn bd nn 0 0 (zt (τ 39) 13) (zt (τ 40) 13) F9 ((τ 42), 1000000000)).1) 43 F9) (by first | rfl | (funext j9; by_cases hj36 : j9 = 36; (subst hj36; first | rfl | exact ua_ua | exact ua_mid (by decide) | (funext i9; simp only [sA, ua]; (repeat' split) <;> first | rfl | (exfalso; omega) | (subst_vars; rfl))); by_cases hj37 : j9 = 37; (subst hj37; first | rfl | exact ua_ua | exact ua_mid (by decide) | (funext i9; simp only [sA, ua]; (repeat' split) <;> first | rfl | (exfalso; omega) | (subst_vars; rfl))); by_cases hj38 : j9 = 38; (subst hj38; first | rfl | exact ua_ua | exact ua_mid (by decide) | (funext i9; simp only [sA, ua]; (repeat' split) <;> first | rfl | (exfalso; omega) | (subst_vars; rfl))); by_cases hj39 : j9 = 39; (subst hj39; first | rfl | exact ua_ua | exact ua_mid (by decide) | (funext i9; simp only [sA, ua]; (repeat' split) <;> first | rfl | (exfalso; omega) | (subst_vars; rfl))); by_cases hj40 : j9 = 40; (subst hj40; first | rfl | exact ua_ua | exact ua_mid (by decide) | (funext i9; simp only [sA, ua]; (repeat' split) <;> first | rfl | (exfalso; omega) | (subst_vars; rfl))); by_cases hj42 : j9 = 42; (subst hj42; first | rfl | exact ua_ua | exact ua_mid (by decide) | (funext i9; simp only [sA, ua]; (repeat' split) <;> first | rfl | (exfalso; omega) | (subst_vars; rfl))); by_cases hj43 : j9 = 43; (subst hj43; first | rfl | exact ua_ua | exact ua_mid (by decide) | (funext i9; simp only [sA, ua]; (repeat' split) <;> first | rfl | (exfalso; omega) | (subst_vars; rfl))); simp only [sA, if_neg hj36, if_neg hj37, if_neg hj38, if_neg hj39, if_neg hj40, if_neg hj42, if_neg hj43])) ?_
              have zz : 0 ≤ (zbB (wdS (τ 37) (τ 38) (τ 41) 13).1 (wdS (τ 37) (τ 38) (τ 41) 13).2 (τ 41) hn bd nn 0 0 (zt (τ 39) 13) (zt (τ 40) 13) F9 ((τ 42), 1000000000)).2 ∧ (zbB (wdS (τ 37) (τ 38) (τ 41) 13).1 (wdS (τ 37) (τ 38) (τ 41) 13).2 (τ 41) hn bd nn 0 0 (zt (τ 39) 13) (zt (τ 40) 13) F9 ((τ 42), 1000000000)).2 ≤ 1000000000 := by have z := zbB_R (wdS (τ 37) (τ 38) (τ 41) 13).1 (wdS (τ 37) (τ 38) (τ 41) 13).2 (τ 41) hn bd (fun w q => (hwd (by omega) w q).1.2) nn 0 0 (zt (τ 39) 13) (zt (τ 40) 13) F9 ((τ 42), 1000000000) (by omega) (fun w q => by rw [zt_0 _ 13 w q]; omega); exact ⟨z.2.2 (by show (0 : Int) ≤ 1000000000; decide), z.2.1⟩
              have zv : lsV (τ 37) (τ 38) (τ 41) (τ 39) (τ 40) (τ 43) (τ 42) hn (τ 36 0) (τ 36 1) = if (zbB (wdS (τ 37) (τ 38) (τ 41) 13).1 (wdS (τ 37) (τ 38) (τ 41) 13).2 (τ 41) hn bd nn 0 0 (zt (τ 39) 13) (zt (τ 40) 13) F9 ((τ 42), 1000000000)).2 = 1000000000 then -1 else (zbB (wdS (τ 37) (τ 38) (τ 41) 13).1 (wdS (τ 37) (τ 38) (τ 41) 13).2 (τ 41) hn bd nn 0 0 (zt (τ 39) 13) (zt (τ 40) 13) F9 ((τ 42), 1000000000)).2 := by unfold lsV; rw [if_neg (by omega), show (τ 36 0 + τ 36 1).toNat = nn by omega, ← ebd, hF9, show v = 3 by omega]
              refine hv_aload_n C 0 0 dX6_leastSeconds_105 rfl rfl ?_
              refine zc_get C K (v := .int (iz ((zbB (wdS (τ 37) (τ 38) (τ 41) 13).1 (wdS (τ 37) (τ 38) (τ 41) 13).2 (τ 41) hn bd nn 0 0 (zt (τ 39) 13) (zt (τ 40) 13) F9 ((τ 42), 1000000000)).2))) 10 rfl hu_7 (by decide) (cw_at 36 rfl) rfl fl_X6_78 rfl dX6_leastSeconds_106 ?_
              refine hv_ldc C (n := 1000000000) lc_X6_77 dX6_leastSeconds_109 ?_
              refine hv_icmp_ne C 118 dX6_leastSeconds_111 (by decide) (by omega) (by omega) (fun h111 => ?_) (fun h111 => ?_)
              · skip
                refine hv_aload_n C 0 0 dX6_leastSeconds_118 rfl rfl ?_
                refine zc_get C K (v := .int (iz ((zbB (wdS (τ 37) (τ 38) (τ 41) 13).1 (wdS (τ 37) (τ 38) (τ 41) 13).2 (τ 41) hn bd nn 0 0 (zt (τ 39) 13) (zt (τ 40) 13) F9 ((τ 42), 1000000000)).2))) 10 rfl hu_7 (by decide) (cw_at 36 rfl) rfl fl_X6_78 rfl dX6_leastSeconds_119 ?_
                exact zs_iret C hr hlk (by first | (unfold lsV; exact if_p (by omega) rfl) | (rw [zv]; first | exact if_p (by omega) rfl | exact if_n (by omega) rfl)) ⟨(sA (sA (sA (sA (sA (sA (sA τ 36 (ua (ua (ua (τ 36) 9 ((hn : Nat) : Int)) 10 ((zbB (wdS (τ 37) (τ 38) (τ 41) 13).1 (wdS (τ 37) (τ 38) (τ 41) 13).2 (τ 41) hn bd nn 0 0 (zt (τ 39) 13) (zt (τ 40) 13) F9 ((τ 42), 1000000000)).2)) 11 bd)) 37 (wdS (τ 37) (τ 38) (τ 41) 13).1) 38 (wdS (τ 37) (τ 38) (τ 41) 13).2) 39 (zt (τ 39) 13)) 40 (zt (τ 40) 13)) 42 (zbB (wdS (τ 37) (τ 38) (τ 41) 13).1 (wdS (τ 37) (τ 38) (τ 41) 13).2 (τ 41) hn bd nn 0 0 (zt (τ 39) 13) (zt (τ 40) 13) F9 ((τ 42), 1000000000)).1) 43 F9), by first | rfl | (funext j9; by_cases hj36 : j9 = 36; (subst hj36; first | rfl | (funext i9; simp only [sA, ua]; split <;> first | rfl | (subst_vars; rfl))); by_cases hj37 : j9 = 37; (subst hj37; first | rfl | (funext i9; simp only [sA, ua]; split <;> first | rfl | (subst_vars; rfl))); by_cases hj38 : j9 = 38; (subst hj38; first | rfl | (funext i9; simp only [sA, ua]; split <;> first | rfl | (subst_vars; rfl))); by_cases hj39 : j9 = 39; (subst hj39; first | rfl | (funext i9; simp only [sA, ua]; split <;> first | rfl | (subst_vars; rfl))); by_cases hj40 : j9 = 40; (subst hj40; first | rfl | (funext i9; simp only [sA, ua]; split <;> first | rfl | (subst_vars; rfl))); by_cases hj42 : j9 = 42; (subst hj42; first | rfl | (funext i9; simp only [sA, ua]; split <;> first | rfl | (subst_vars; rfl))); by_cases hj43 : j9 = 43; (subst hj43; first | rfl | (funext i9; simp only [sA, ua]; split <;> first | rfl | (subst_vars; rfl))); simp only [sA, if_neg hj36, if_neg hj37, if_neg hj38, if_neg hj39, if_neg hj40, if_neg hj42, if_neg hj43])⟩ dX6_leastSeconds_122
              · skip
                refine hv_iconst C dX6_leastSeconds_114 ?_
                refine hv_goto C 122 dX6_leastSeconds_115 (by decide) ?_
                exact zs_iret C hr hlk (by first | (unfold lsV; exact if_p (by omega) rfl) | (rw [zv]; first | exact if_p (by omega) rfl | exact if_n (by omega) rfl)) ⟨(sA (sA (sA (sA (sA (sA (sA τ 36 (ua (ua (ua (τ 36) 9 ((hn : Nat) : Int)) 10 ((zbB (wdS (τ 37) (τ 38) (τ 41) 13).1 (wdS (τ 37) (τ 38) (τ 41) 13).2 (τ 41) hn bd nn 0 0 (zt (τ 39) 13) (zt (τ 40) 13) F9 ((τ 42), 1000000000)).2)) 11 bd)) 37 (wdS (τ 37) (τ 38) (τ 41) 13).1) 38 (wdS (τ 37) (τ 38) (τ 41) 13).2) 39 (zt (τ 39) 13)) 40 (zt (τ 40) 13)) 42 (zbB (wdS (τ 37) (τ 38) (τ 41) 13).1 (wdS (τ 37) (τ 38) (τ 41) 13).2 (τ 41) hn bd nn 0 0 (zt (τ 39) 13) (zt (τ 40) 13) F9 ((τ 42), 1000000000)).1) 43 F9), by first | rfl | (funext j9; by_cases hj36 : j9 = 36; (subst hj36; first | rfl | (funext i9; simp only [sA, ua]; split <;> first | rfl | (subst_vars; rfl))); by_cases hj37 : j9 = 37; (subst hj37; first | rfl | (funext i9; simp only [sA, ua]; split <;> first | rfl | (subst_vars; rfl))); by_cases hj38 : j9 = 38; (subst hj38; first | rfl | (funext i9; simp only [sA, ua]; split <;> first | rfl | (subst_vars; rfl))); by_cases hj39 : j9 = 39; (subst hj39; first | rfl | (funext i9; simp only [sA, ua]; split <;> first | rfl | (subst_vars; rfl))); by_cases hj40 : j9 = 40; (subst hj40; first | rfl | (funext i9; simp only [sA, ua]; split <;> first | rfl | (subst_vars; rfl))); by_cases hj42 : j9 = 42; (subst hj42; first | rfl | (funext i9; simp only [sA, ua]; split <;> first | rfl | (subst_vars; rfl))); by_cases hj43 : j9 = 43; (subst hj43; first | rfl | (funext i9; simp only [sA, ua]; split <;> first | rfl | (subst_vars; rfl))); simp only [sA, if_neg hj36, if_neg hj37, if_neg hj38, if_neg hj39, if_neg hj40, if_neg hj42, if_neg hj43])⟩ dX6_leastSeconds_122
            · skip
              refine hv_aload_n C 0 0 dX6_leastSeconds_38 rfl rfl ?_
              refine zc_get C K (v := .ref (b + 43)) 8 rfl hu_7 (by decide) (cw_at 36 rfl) rfl fl_X6_30 rfl dX6_leastSeconds_39 ?_
              refine hv_iload_n C 2 2 dX6_leastSeconds_42 rfl rfl ?_
              refine hv_iconst C dX6_leastSeconds_43 ?_
              refine zc_iast C K (f := F9) v (cw_at 43 rfl) (cw_set 43 v 0 rfl) (by omega) (by omega) (by decide) dX6_leastSeconds_44 ?_
              refine zt_st (τ2 := sA (sA τ 36 (ua (τ 36) 9 ((hn : Nat) : Int))) 43 (ua F9 v 0)) (by rw [u2_sA, sA_sA]; first | done | rfl) ?_
              refine hv_iinc C 2 2 [(2, .int (iz (((v : Nat) : Int) + 1))), (0, .ref (b + 36)), (1, .int (iz ((hn : Nat) : Int)))] dX6_leastSeconds_45 rfl (by decide) rfl ?_
              refine hv_goto C 33 dX6_leastSeconds_48 (by decide) ?_
              refine hv_loc [1, 2, 0] [(0, .ref (b + 36)), (1, .int (iz ((hn : Nat) : Int))), (2, .int (iz (((v : Nat) : Int) + 1)))] rfl ?_
              exact ih33 (v + 1) (ua F9 v 0) (by omega) (by omega) (by rw [hF9]; rfl)
        refine hv_loc [1, 2, 0] [(0, .ref (b + 36)), (1, .int (iz ((hn : Nat) : Int))), (2, .int (iz 0))] rfl ?_
        refine zt_st (τ2 := sA (sA τ 36 (ua (τ 36) 9 ((hn : Nat) : Int))) 43 (τ 43)) ((sA_id (sA τ 36 (ua (τ 36) 9 ((hn : Nat) : Int))) 43).symm) ?_
        exact L33 _ 0 (τ 43) (Nat.lt_succ_self _) (by omega) rfl
      · skip
        refine hv_iconst C dX6_leastSeconds_24 ?_
        exact zs_iret C hr hlk (by first | (unfold lsV; exact if_p (by omega) rfl) | (rw [zv]; first | exact if_p (by omega) rfl | exact if_n (by omega) rfl)) ⟨τ, by first | rfl | (funext j9; by_cases hj36 : j9 = 36; (subst hj36; first | rfl | (funext i9; simp only [sA, ua]; split <;> first | rfl | (subst_vars; rfl))); by_cases hj37 : j9 = 37; (subst hj37; first | rfl | (funext i9; simp only [sA, ua]; split <;> first | rfl | (subst_vars; rfl))); by_cases hj38 : j9 = 38; (subst hj38; first | rfl | (funext i9; simp only [sA, ua]; split <;> first | rfl | (subst_vars; rfl))); by_cases hj39 : j9 = 39; (subst hj39; first | rfl | (funext i9; simp only [sA, ua]; split <;> first | rfl | (subst_vars; rfl))); by_cases hj40 : j9 = 40; (subst hj40; first | rfl | (funext i9; simp only [sA, ua]; split <;> first | rfl | (subst_vars; rfl))); by_cases hj42 : j9 = 42; (subst hj42; first | rfl | (funext i9; simp only [sA, ua]; split <;> first | rfl | (subst_vars; rfl))); by_cases hj43 : j9 = 43; (subst hj43; first | rfl | (funext i9; simp only [sA, ua]; split <;> first | rfl | (subst_vars; rfl))); simp only [sA, if_neg hj36, if_neg hj37, if_neg hj38, if_neg hj39, if_neg hj40, if_neg hj42, if_neg hj43])⟩ dX6_leastSeconds_25
theorem dX11_change_0 : decode cX11_change 0 = .ok (.iload_n 1, 1) := by decide +kernel
theorem dX11_change_1 : decode cX11_change 1 = .ok (.invokestatic 86, 3) := by decide +kernel
theorem dX11_change_4 : decode cX11_change 4 = .ok (.ifCond .eq 19, 3) := by decide +kernel
theorem dX11_change_7 : decode cX11_change 7 = .ok (.iload_n 2, 1) := by decide +kernel
theorem dX11_change_8 : decode cX11_change 8 = .ok (.invokestatic 93, 3) := by decide +kernel
theorem dX11_change_11 : decode cX11_change 11 = .ok (.ifCond .eq 12, 3) := by decide +kernel
theorem dX11_change_14 : decode cX11_change 14 = .ok (.iload_n 3, 1) := by decide +kernel
theorem dX11_change_15 : decode cX11_change 15 = .ok (.iconst 0, 1) := by decide +kernel
theorem dX11_change_16 : decode cX11_change 16 = .ok (.iconst 2, 1) := by decide +kernel
theorem dX11_change_17 : decode cX11_change 17 = .ok (.invokestatic 62, 3) := by decide +kernel
theorem dX11_change_20 : decode cX11_change 20 = .ok (.ifCond .ne 5, 3) := by decide +kernel
theorem dX11_change_23 : decode cX11_change 23 = .ok (.iconst (-1), 1) := by decide +kernel
theorem dX11_change_24 : decode cX11_change 24 = .ok (.ireturn, 1) := by decide +kernel
theorem dX11_change_25 : decode cX11_change 25 = .ok (.bipush 48, 2) := by decide +kernel
theorem dX11_change_27 : decode cX11_change 27 = .ok (.iload_n 1, 1) := by decide +kernel
theorem dX11_change_28 : decode cX11_change 28 = .ok (.imul, 1) := by decide +kernel
theorem dX11_change_29 : decode cX11_change 29 = .ok (.iload_n 2, 1) := by decide +kernel
theorem dX11_change_30 : decode cX11_change 30 = .ok (.iadd, 1) := by decide +kernel
theorem dX11_change_31 : decode cX11_change 31 = .ok (.istore 4, 2) := by decide +kernel
theorem dX11_change_33 : decode cX11_change 33 = .ok (.aload_n 0, 1) := by decide +kernel
theorem dX11_change_34 : decode cX11_change 34 = .ok (.getfield 27, 3) := by decide +kernel
theorem dX11_change_37 : decode cX11_change 37 = .ok (.aload_n 0, 1) := by decide +kernel
theorem dX11_change_38 : decode cX11_change 38 = .ok (.getfield 10, 3) := by decide +kernel
theorem dX11_change_41 : decode cX11_change 41 = .ok (.iload 4, 2) := by decide +kernel
theorem dX11_change_43 : decode cX11_change 43 = .ok (.iconst 1, 1) := by decide +kernel
theorem dX11_change_44 : decode cX11_change 44 = .ok (.isub, 1) := by decide +kernel
theorem dX11_change_45 : decode cX11_change 45 = .ok (.invokevirtual 223, 3) := by decide +kernel
theorem dX11_change_48 : decode cX11_change 48 = .ok (.aload_n 0, 1) := by decide +kernel
theorem dX11_change_49 : decode cX11_change 49 = .ok (.getfield 23, 3) := by decide +kernel
theorem dX11_change_52 : decode cX11_change 52 = .ok (.aload_n 0, 1) := by decide +kernel
theorem dX11_change_53 : decode cX11_change 53 = .ok (.getfield 10, 3) := by decide +kernel
theorem dX11_change_56 : decode cX11_change 56 = .ok (.iload 4, 2) := by decide +kernel
theorem dX11_change_58 : decode cX11_change 58 = .ok (.invokevirtual 223, 3) := by decide +kernel
theorem dX11_change_61 : decode cX11_change 61 = .ok (.aload_n 0, 1) := by decide +kernel
theorem dX11_change_62 : decode cX11_change 62 = .ok (.getfield 33, 3) := by decide +kernel
theorem dX11_change_65 : decode cX11_change 65 = .ok (.aload_n 0, 1) := by decide +kernel
theorem dX11_change_66 : decode cX11_change 66 = .ok (.getfield 10, 3) := by decide +kernel
theorem dX11_change_69 : decode cX11_change 69 = .ok (.aload_n 0, 1) := by decide +kernel
theorem dX11_change_70 : decode cX11_change 70 = .ok (.getfield 27, 3) := by decide +kernel
theorem dX11_change_73 : decode cX11_change 73 = .ok (.aload_n 0, 1) := by decide +kernel
theorem dX11_change_74 : decode cX11_change 74 = .ok (.getfield 23, 3) := by decide +kernel
theorem dX11_change_77 : decode cX11_change 77 = .ok (.invokevirtual 237, 3) := by decide +kernel
theorem dX11_change_80 : decode cX11_change 80 = .ok (.iload_n 3, 1) := by decide +kernel
theorem dX11_change_81 : decode cX11_change 81 = .ok (.ifCond .ne 11, 3) := by decide +kernel
theorem dX11_change_84 : decode cX11_change 84 = .ok (.aload_n 0, 1) := by decide +kernel
theorem dX11_change_85 : decode cX11_change 85 = .ok (.getfield 33, 3) := by decide +kernel
theorem dX11_change_88 : decode cX11_change 88 = .ok (.getfield 241, 3) := by decide +kernel
theorem dX11_change_91 : decode cX11_change 91 = .ok (.ireturn, 1) := by decide +kernel
theorem dX11_change_92 : decode cX11_change 92 = .ok (.iload_n 3, 1) := by decide +kernel
theorem dX11_change_93 : decode cX11_change 93 = .ok (.iconst 1, 1) := by decide +kernel
theorem dX11_change_94 : decode cX11_change 94 = .ok (.if_icmp .ne 13, 3) := by decide +kernel
theorem dX11_change_97 : decode cX11_change 97 = .ok (.aload_n 0, 1) := by decide +kernel
theorem dX11_change_98 : decode cX11_change 98 = .ok (.getfield 33, 3) := by decide +kernel
theorem dX11_change_101 : decode cX11_change 101 = .ok (.getfield 244, 3) := by decide +kernel
theorem dX11_change_104 : decode cX11_change 104 = .ok (.goto 17, 3) := by decide +kernel
theorem dX11_change_107 : decode cX11_change 107 = .ok (.aload_n 0, 1) := by decide +kernel
theorem dX11_change_108 : decode cX11_change 108 = .ok (.getfield 33, 3) := by decide +kernel
theorem dX11_change_111 : decode cX11_change 111 = .ok (.aload_n 0, 1) := by decide +kernel
theorem dX11_change_112 : decode cX11_change 112 = .ok (.getfield 10, 3) := by decide +kernel
theorem dX11_change_115 : decode cX11_change 115 = .ok (.getfield 234, 3) := by decide +kernel
theorem dX11_change_118 : decode cX11_change 118 = .ok (.invokevirtual 247, 3) := by decide +kernel
theorem dX11_change_121 : decode cX11_change 121 = .ok (.ireturn, 1) := by decide +kernel
theorem fl_X11_27 : Cond.fieldLink RX11 27 "HookUps" (TX11 3).2.1 (TX11 3).2.2.1 ∈ hk_tb := hk_tq2 75 (by decide +kernel) (by decide +kernel)
theorem fl_X11_33 : Cond.fieldLink RX11 33 "HookUps" (TX11 4).2.1 (TX11 4).2.2.1 ∈ hk_tb := hk_tq2 76 (by decide +kernel) (by decide +kernel)
theorem ck_X11_237 : zcV RX11 RX6 yX6_compare cX6_compare 5 none 237 3 := ⟨hk_tq4 201 (by decide +kernel) (by decide +kernel), hk_tq4 198 (by decide +kernel) (by decide +kernel), hk_tq1 9 (by decide +kernel) (by decide +kernel), ⟨by decide, by decide, by decide +kernel⟩, hk_tq4 199 (by decide +kernel) (by decide +kernel), hk_tq4 200 (by decide +kernel) (by decide +kernel)⟩
theorem ck_X11_247 : zcV RX11 RX6 yX6_leastSeconds cX6_leastSeconds 3 (some .int) 247 1 := ⟨hk_tq4 217 (by decide +kernel) (by decide +kernel), hk_tq4 214 (by decide +kernel) (by decide +kernel), hk_tq1 9 (by decide +kernel) (by decide +kernel), ⟨by decide, by decide, by decide +kernel⟩, hk_tq4 215 (by decide +kernel) (by decide +kernel), hk_tq4 216 (by decide +kernel) (by decide +kernel)⟩
theorem fl_X11_244 : Cond.fieldLink RX11 244 "HookUps$Shift" (TX6 1).2.1 (TX6 1).2.2.1 ∈ hk_tb := hk_tq2 0 (by decide +kernel) (by decide +kernel)
theorem fl_X11_241 : Cond.fieldLink RX11 241 "HookUps$Shift" (TX6 0).2.1 (TX6 0).2.2.1 ∈ hk_tb := hk_tq1 238 (by decide +kernel) (by decide +kernel)
set_option maxRecDepth 100000 in
set_option maxHeartbeats 4000000 in
theorem k_X11_change (l : Launch) {D : va_G} {ar : Nat → ClassId} {B : Nat → Prop} {b n : Nat} {w0 : zcW} (A : Nat → Int) (τ : Nat → Nat → Int) (day : Int) (slot : Int) (what : Int) (hA : ∀ i, inI (A i)) (hR : Rel9 ar b w0 A τ) (hs : si A) (hh : hi A) (hl : li A) (hlj : lj9 A) (hc : cn A) (hm : mI A) (hb : bI A) (hwi : wi A) (r_day : inI day) (r_slot : inI slot) (r_what : inI what) : zs_M l D ar B b w0 n yX11_change cX11_change 5 (some .int) 17 512 [.ref b, .int (iz day), .int (iz slot), .int (iz what)] τ (some (.int (iz (if (0 ≤ day ∧ day ≤ 199) ∧ (0 ≤ slot ∧ slot ≤ 47) ∧ (0 ≤ what ∧ what ≤ 2) then (if what = 0 then (cpS A (lyS A (48 * day + slot - 1) (τ 31) (τ 32) (τ 33) (τ 34) (τ 35)) (lyS A (48 * day + slot) (τ 25) (τ 26) (τ 27) (τ 28) (τ 29)) (zt (τ 37) 13) (zt (τ 38) 13) (s7q (τ 41) 13) (A 1).toNat).1 else if what = 1 then (cpS A (lyS A (48 * day + slot - 1) (τ 31) (τ 32) (τ 33) (τ 34) (τ 35)) (lyS A (48 * day + slot) (τ 25) (τ 26) (τ 27) (τ 28) (τ 29)) (zt (τ 37) 13) (zt (τ 38) 13) (s7q (τ 41) 13) (A 1).toNat).2.1 else lsV (cpS A (lyS A (48 * day + slot - 1) (τ 31) (τ 32) (τ 33) (τ 34) (τ 35)) (lyS A (48 * day + slot) (τ 25) (τ 26) (τ 27) (τ 28) (τ 29)) (zt (τ 37) 13) (zt (τ 38) 13) (s7q (τ 41) 13) (A 1).toNat).2.2.1 (cpS A (lyS A (48 * day + slot - 1) (τ 31) (τ 32) (τ 33) (τ 34) (τ 35)) (lyS A (48 * day + slot) (τ 25) (τ 26) (τ 27) (τ 28) (τ 29)) (zt (τ 37) 13) (zt (τ 38) 13) (s7q (τ 41) 13) (A 1).toNat).2.2.2.1 (cpS A (lyS A (48 * day + slot - 1) (τ 31) (τ 32) (τ 33) (τ 34) (τ 35)) (lyS A (48 * day + slot) (τ 25) (τ 26) (τ 27) (τ 28) (τ 29)) (zt (τ 37) 13) (zt (τ 38) 13) (s7q (τ 41) 13) (A 1).toNat).2.2.2.2 (τ 39) (τ 40) (τ 43) (τ 42) (A 13).toNat (cpS A (lyS A (48 * day + slot - 1) (τ 31) (τ 32) (τ 33) (τ 34) (τ 35)) (lyS A (48 * day + slot) (τ 25) (τ 26) (τ 27) (τ 28) (τ 29)) (zt (τ 37) 13) (zt (τ 38) 13) (s7q (τ 41) 13) (A 1).toNat).1 (cpS A (lyS A (48 * day + slot - 1) (τ 31) (τ 32) (τ 33) (τ 34) (τ 35)) (lyS A (48 * day + slot) (τ 25) (τ 26) (τ 27) (τ 28) (τ 29)) (zt (τ 37) 13) (zt (τ 38) 13) (s7q (τ 41) 13) (A 1).toNat).2.1) else -1)))) (fun (X : Nat → Nat → Int) => sA (sA (sA (sA (sA (sA (sA (sA (sA (sA (sA (sA (sA (sA (sA (sA (sA (sA (sA τ 18 (X 18)) 25 (X 25)) 26 (X 26)) 27 (X 27)) 28 (X 28)) 29 (X 29)) 31 (X 31)) 32 (X 32)) 33 (X 33)) 34 (X 34)) 35 (X 35)) 36 (X 36)) 37 (X 37)) 38 (X 38)) 39 (X 39)) 40 (X 40)) 41 (X 41)) 42 (X 42)) 43 (X 43)) := by
  refine zc_start (own := RX11) (by decide +kernel) rfl (Nat.le_of_ble_eq_true rfl) ?_
  intro p e s m args below meth c C K hr hlk hnam
  have zi := hR.i
  unfold rlI at zi
  refine hv_iload_n C 1 1 dX11_change_0 rfl rfl ?_
  refine zt_callS [.int (iz day)] [] C K (k_X11_isDay l  τ day (by omega)) ck_X11_86 (by decide) ⟨Nat.zero_le _, Nat.zero_le _⟩ rfl (Nat.le_of_ble_eq_true rfl) dX11_change_1 ?_
  refine hv_as (xb (decide (0 ≤ day ∧ day ≤ 199))) rfl ?_
  refine hv_dif_eq C 23 dX11_change_4 (by decide)  (fun h4 => ?_) (fun h4 => ?_)
  · skip
    refine hv_iconst C dX11_change_23 ?_
    exact zs_iret C hr hlk (by first | exact if_n (by omega) rfl | (refine if_p (by omega) ?_; first | exact if_p (by omega) rfl | (refine if_n (by omega) ?_; first | exact if_p (by omega) rfl | (refine if_n (by omega) ?_; first | rfl | (rw [show (A 13).toNat = hn by omega] <;> rfl))))) ⟨τ, by first | rfl | (funext j9; by_cases hj18 : j9 = 18; (subst hj18; first | rfl | (funext i9; simp only [sA, ua]; split <;> first | rfl | (subst_vars; rfl))); by_cases hj25 : j9 = 25; (subst hj25; first | rfl | (funext i9; simp only [sA, ua]; split <;> first | rfl | (subst_vars; rfl))); by_cases hj26 : j9 = 26; (subst hj26; first | rfl | (funext i9; simp only [sA, ua]; split <;> first | rfl | (subst_vars; rfl))); by_cases hj27 : j9 = 27; (subst hj27; first | rfl | (funext i9; simp only [sA, ua]; split <;> first | rfl | (subst_vars; rfl))); by_cases hj28 : j9 = 28; (subst hj28; first | rfl | (funext i9; simp only [sA, ua]; split <;> first | rfl | (subst_vars; rfl))); by_cases hj29 : j9 = 29; (subst hj29; first | rfl | (funext i9; simp only [sA, ua]; split <;> first | rfl | (subst_vars; rfl))); by_cases hj31 : j9 = 31; (subst hj31; first | rfl | (funext i9; simp only [sA, ua]; split <;> first | rfl | (subst_vars; rfl))); by_cases hj32 : j9 = 32; (subst hj32; first | rfl | (funext i9; simp only [sA, ua]; split <;> first | rfl | (subst_vars; rfl))); by_cases hj33 : j9 = 33; (subst hj33; first | rfl | (funext i9; simp only [sA, ua]; split <;> first | rfl | (subst_vars; rfl))); by_cases hj34 : j9 = 34; (subst hj34; first | rfl | (funext i9; simp only [sA, ua]; split <;> first | rfl | (subst_vars; rfl))); by_cases hj35 : j9 = 35; (subst hj35; first | rfl | (funext i9; simp only [sA, ua]; split <;> first | rfl | (subst_vars; rfl))); by_cases hj36 : j9 = 36; (subst hj36; first | rfl | (funext i9; simp only [sA, ua]; split <;> first | rfl | (subst_vars; rfl))); by_cases hj37 : j9 = 37; (subst hj37; first | rfl | (funext i9; simp only [sA, ua]; split <;> first | rfl | (subst_vars; rfl))); by_cases hj38 : j9 = 38; (subst hj38; first | rfl | (funext i9; simp only [sA, ua]; split <;> first | rfl | (subst_vars; rfl))); by_cases hj39 : j9 = 39; (subst hj39; first | rfl | (funext i9; simp only [sA, ua]; split <;> first | rfl | (subst_vars; rfl))); by_cases hj40 : j9 = 40; (subst hj40; first | rfl | (funext i9; simp only [sA, ua]; split <;> first | rfl | (subst_vars; rfl))); by_cases hj41 : j9 = 41; (subst hj41; first | rfl | (funext i9; simp only [sA, ua]; split <;> first | rfl | (subst_vars; rfl))); by_cases hj42 : j9 = 42; (subst hj42; first | rfl | (funext i9; simp only [sA, ua]; split <;> first | rfl | (subst_vars; rfl))); by_cases hj43 : j9 = 43; (subst hj43; first | rfl | (funext i9; simp only [sA, ua]; split <;> first | rfl | (subst_vars; rfl))); simp only [sA, if_neg hj18, if_neg hj25, if_neg hj26, if_neg hj27, if_neg hj28, if_neg hj29, if_neg hj31, if_neg hj32, if_neg hj33, if_neg hj34, if_neg hj35, if_neg hj36, if_neg hj37, if_neg hj38, if_neg hj39, if_neg hj40, if_neg hj41, if_neg hj42, if_neg hj43])⟩ dX11_change_24
  · skip
    refine hv_iload_n C 2 2 dX11_change_7 rfl rfl ?_
    refine zt_callS [.int (iz slot)] [] C K (k_X11_isSlot l  τ slot (by omega)) ck_X11_93 (by decide) ⟨Nat.zero_le _, Nat.zero_le _⟩ rfl (Nat.le_of_ble_eq_true rfl) dX11_change_8 ?_
    refine hv_as (xb (decide (0 ≤ slot ∧ slot ≤ 47))) rfl ?_
    refine hv_dif_eq C 23 dX11_change_11 (by decide)  (fun h11 => ?_) (fun h11 => ?_)
    · skip
      refine hv_iconst C dX11_change_23 ?_
      exact zs_iret C hr hlk (by first | exact if_n (by omega) rfl | (refine if_p (by omega) ?_; first | exact if_p (by omega) rfl | (refine if_n (by omega) ?_; first | exact if_p (by omega) rfl | (refine if_n (by omega) ?_; first | rfl | (rw [show (A 13).toNat = hn by omega] <;> rfl))))) ⟨τ, by first | rfl | (funext j9; by_cases hj18 : j9 = 18; (subst hj18; first | rfl | (funext i9; simp only [sA, ua]; split <;> first | rfl | (subst_vars; rfl))); by_cases hj25 : j9 = 25; (subst hj25; first | rfl | (funext i9; simp only [sA, ua]; split <;> first | rfl | (subst_vars; rfl))); by_cases hj26 : j9 = 26; (subst hj26; first | rfl | (funext i9; simp only [sA, ua]; split <;> first | rfl | (subst_vars; rfl))); by_cases hj27 : j9 = 27; (subst hj27; first | rfl | (funext i9; simp only [sA, ua]; split <;> first | rfl | (subst_vars; rfl))); by_cases hj28 : j9 = 28; (subst hj28; first | rfl | (funext i9; simp only [sA, ua]; split <;> first | rfl | (subst_vars; rfl))); by_cases hj29 : j9 = 29; (subst hj29; first | rfl | (funext i9; simp only [sA, ua]; split <;> first | rfl | (subst_vars; rfl))); by_cases hj31 : j9 = 31; (subst hj31; first | rfl | (funext i9; simp only [sA, ua]; split <;> first | rfl | (subst_vars; rfl))); by_cases hj32 : j9 = 32; (subst hj32; first | rfl | (funext i9; simp only [sA, ua]; split <;> first | rfl | (subst_vars; rfl))); by_cases hj33 : j9 = 33; (subst hj33; first | rfl | (funext i9; simp only [sA, ua]; split <;> first | rfl | (subst_vars; rfl))); by_cases hj34 : j9 = 34; (subst hj34; first | rfl | (funext i9; simp only [sA, ua]; split <;> first | rfl | (subst_vars; rfl))); by_cases hj35 : j9 = 35; (subst hj35; first | rfl | (funext i9; simp only [sA, ua]; split <;> first | rfl | (subst_vars; rfl))); by_cases hj36 : j9 = 36; (subst hj36; first | rfl | (funext i9; simp only [sA, ua]; split <;> first | rfl | (subst_vars; rfl))); by_cases hj37 : j9 = 37; (subst hj37; first | rfl | (funext i9; simp only [sA, ua]; split <;> first | rfl | (subst_vars; rfl))); by_cases hj38 : j9 = 38; (subst hj38; first | rfl | (funext i9; simp only [sA, ua]; split <;> first | rfl | (subst_vars; rfl))); by_cases hj39 : j9 = 39; (subst hj39; first | rfl | (funext i9; simp only [sA, ua]; split <;> first | rfl | (subst_vars; rfl))); by_cases hj40 : j9 = 40; (subst hj40; first | rfl | (funext i9; simp only [sA, ua]; split <;> first | rfl | (subst_vars; rfl))); by_cases hj41 : j9 = 41; (subst hj41; first | rfl | (funext i9; simp only [sA, ua]; split <;> first | rfl | (subst_vars; rfl))); by_cases hj42 : j9 = 42; (subst hj42; first | rfl | (funext i9; simp only [sA, ua]; split <;> first | rfl | (subst_vars; rfl))); by_cases hj43 : j9 = 43; (subst hj43; first | rfl | (funext i9; simp only [sA, ua]; split <;> first | rfl | (subst_vars; rfl))); simp only [sA, if_neg hj18, if_neg hj25, if_neg hj26, if_neg hj27, if_neg hj28, if_neg hj29, if_neg hj31, if_neg hj32, if_neg hj33, if_neg hj34, if_neg hj35, if_neg hj36, if_neg hj37, if_neg hj38, if_neg hj39, if_neg hj40, if_neg hj41, if_neg hj42, if_neg hj43])⟩ dX11_change_24
    · skip
      refine hv_iload_n C 3 3 dX11_change_14 rfl rfl ?_
      refine hv_iconst C dX11_change_15 ?_
      refine hv_iconst C dX11_change_16 ?_
      refine zt_callS [.int (iz what), .int (iz 0), .int (iz 2)] [] C K (k_X11_within l  τ what 0 2 (by omega) (by omega) (by omega)) ck_X11_62 (by decide) ⟨Nat.zero_le _, Nat.zero_le _⟩ rfl (Nat.le_of_ble_eq_true rfl) dX11_change_17 ?_
      refine hv_as (xb (decide (0 ≤ what ∧ what ≤ 2))) rfl ?_
      refine hv_dif_ne C 25 dX11_change_20 (by decide)  (fun h20 => ?_) (fun h20 => ?_)
      · skip
        refine hv_bipush C dX11_change_25 (by decide) ?_
        refine hv_iload_n C 1 1 dX11_change_27 rfl rfl ?_
        refine hv_imul C dX11_change_28 ?_
        refine hv_iload_n C 2 2 dX11_change_29 rfl rfl ?_
        refine hv_iadd C dX11_change_30 ?_
        refine hv_istore C 4 [(4, .int (iz ((48 * day) + slot))), (0, .ref b), (1, .int (iz day)), (2, .int (iz slot)), (3, .int (iz what))] dX11_change_31 (by decide) rfl ?_
        refine hv_aload_n C 0 1 dX11_change_33 rfl rfl ?_
        refine zc_get C K (v := .ref (b + 30)) 3 rfl hu_12 (by decide) cw_0 rfl fl_X11_27 rfl dX11_change_34 ?_
        refine hv_aload_n C 0 1 dX11_change_37 rfl rfl ?_
        refine zc_get C K (v := .ref (b + 1)) 0 rfl hu_12 (by decide) cw_0 rfl fl_X11_10 rfl dX11_change_38 ?_
        refine hv_iload C 4 0 dX11_change_41 rfl ?_
        refine hv_iconst C dX11_change_43 ?_
        refine hv_isub C dX11_change_44 ?_
        refine zs_callV [.ref (b + 1), .int (iz (((48 * day) + slot) - 1))] [] C K (cw_at 30 rfl) rfl (k_X10_lay_wb l A τ (((48 * day) + slot) - 1) hA hR hs hh hl hlj hc hm hb hwi (by omega)) ck_X11_223 (by decide) ⟨Nat.zero_le _, Nat.zero_le _⟩ rfl (Nat.le_of_ble_eq_true rfl) dX11_change_45 (fun X1 => ?_)
        refine hv_aload_n C 0 1 dX11_change_48 rfl rfl ?_
        refine zc_get C K (v := .ref (b + 24)) 2 rfl hu_12 (by decide) cw_0 rfl fl_X11_23 rfl dX11_change_49 ?_
        refine hv_aload_n C 0 1 dX11_change_52 rfl rfl ?_
        refine zc_get C K (v := .ref (b + 1)) 0 rfl hu_12 (by decide) cw_0 rfl fl_X11_10 rfl dX11_change_53 ?_
        refine hv_iload C 4 0 dX11_change_56 rfl ?_
        refine zs_callV [.ref (b + 1), .int (iz ((48 * day) + slot))] [] C K (cw_at 24 rfl) rfl (k_X10_lay_wa l A (sA (sA (sA (sA (sA (sA τ 18 (X1 18)) 31 (lyS A (((48 * day) + slot) - 1) (τ 31) (τ 32) (τ 33) (τ 34) (τ 35))) 32 (X1 32)) 33 (X1 33)) 34 (X1 34)) 35 (X1 35)) ((48 * day) + slot) hA (by repeat (first | exact hR | refine rl_sA (by decide) ?_)) hs hh hl hlj hc hm hb hwi (by omega)) ck_X11_223 (by decide) ⟨Nat.zero_le _, Nat.zero_le _⟩ rfl (Nat.le_of_ble_eq_true rfl) dX11_change_58 (fun X2 => ?_)
        refine zt_st (τ2 := sA (sA (sA (sA (sA (sA (sA (sA (sA (sA (sA τ 18 (X2 18)) 25 (lyS A ((48 * day) + slot) (τ 25) (τ 26) (τ 27) (τ 28) (τ 29))) 26 (X2 26)) 27 (X2 27)) 28 (X2 28)) 29 (X2 29)) 31 (lyS A (((48 * day) + slot) - 1) (τ 31) (τ 32) (τ 33) (τ 34) (τ 35))) 32 (X1 32)) 33 (X1 33)) 34 (X1 34)) 35 (X1 35)) (by rw [sA_comm (j := 35) (k := 18) (by decide), sA_comm (j := 34) (k := 18) (by decide), sA_comm (j := 33) (k := 18) (by decide), sA_comm (j := 32) (k := 18) (by decide), sA_comm (j := 31) (k := 18) (by decide), sA_sA, sA_comm (j := 35) (k := 25) (by decide), sA_comm (j := 34) (k := 25) (by decide), sA_comm (j := 33) (k := 25) (by decide), sA_comm (j := 32) (k := 25) (by decide), sA_comm (j := 31) (k := 25) (by decide), sA_comm (j := 35) (k := 26) (by decide), sA_comm (j := 34) (k := 26) (by decide), sA_comm (j := 33) (k := 26) (by decide), sA_comm (j := 32) (k := 26) (by decide), sA_comm (j := 31) (k := 26) (by decide), sA_comm (j := 35) (k := 27) (by decide), sA_comm (j := 34) (k := 27) (by decide), sA_comm (j := 33) (k := 27) (by decide), sA_comm (j := 32) (k := 27) (by decide), sA_comm (j := 31) (k := 27) (by decide), sA_comm (j := 35) (k := 28) (by decide), sA_comm (j := 34) (k := 28) (by decide), sA_comm (j := 33) (k := 28) (by decide), sA_comm (j := 32) (k := 28) (by decide), sA_comm (j := 31) (k := 28) (by decide), sA_comm (j := 35) (k := 29) (by decide), sA_comm (j := 34) (k := 29) (by decide), sA_comm (j := 33) (k := 29) (by decide), sA_comm (j := 32) (k := 29) (by decide), sA_comm (j := 31) (k := 29) (by decide)]; first | done | rfl) ?_
        refine hv_aload_n C 0 1 dX11_change_61 rfl rfl ?_
        refine zc_get C K (v := .ref (b + 36)) 4 rfl hu_12 (by decide) cw_0 rfl fl_X11_33 rfl dX11_change_62 ?_
        refine hv_aload_n C 0 1 dX11_change_65 rfl rfl ?_
        refine zc_get C K (v := .ref (b + 1)) 0 rfl hu_12 (by decide) cw_0 rfl fl_X11_10 rfl dX11_change_66 ?_
        refine hv_aload_n C 0 1 dX11_change_69 rfl rfl ?_
        refine zc_get C K (v := .ref (b + 30)) 3 rfl hu_12 (by decide) cw_0 rfl fl_X11_27 rfl dX11_change_70 ?_
        refine hv_aload_n C 0 1 dX11_change_73 rfl rfl ?_
        refine zc_get C K (v := .ref (b + 24)) 2 rfl hu_12 (by decide) cw_0 rfl fl_X11_23 rfl dX11_change_74 ?_
        refine zt_callV [.ref (b + 1), .ref (b + 30), .ref (b + 24)] [] C K (cw_at 36 rfl) rfl (k_X6_compare l A (sA (sA (sA (sA (sA (sA (sA (sA (sA (sA (sA τ 18 (X2 18)) 25 (lyS A ((48 * day) + slot) (τ 25) (τ 26) (τ 27) (τ 28) (τ 29))) 26 (X2 26)) 27 (X2 27)) 28 (X2 28)) 29 (X2 29)) 31 (lyS A (((48 * day) + slot) - 1) (τ 31) (τ 32) (τ 33) (τ 34) (τ 35))) 32 (X1 32)) 33 (X1 33)) 34 (X1 34)) 35 (X1 35))  hA (by repeat (first | exact hR | refine rl_sA (by decide) ?_)) hc hwi (lyS_r hwi hc _ _ _ _ _ _) (lyS_r hwi hc _ _ _ _ _ _)) ck_X11_237 (by decide) ⟨Nat.zero_le _, Nat.zero_le _⟩ rfl (Nat.le_of_ble_eq_true rfl) dX11_change_77 ?_
        refine zt_st (τ2 := sA (sA (sA (sA (sA (sA (sA (sA (sA (sA (sA (sA (sA (sA (sA τ 18 (X2 18)) 25 (lyS A ((48 * day) + slot) (τ 25) (τ 26) (τ 27) (τ 28) (τ 29))) 26 (X2 26)) 27 (X2 27)) 28 (X2 28)) 29 (X2 29)) 31 (lyS A (((48 * day) + slot) - 1) (τ 31) (τ 32) (τ 33) (τ 34) (τ 35))) 32 (X1 32)) 33 (X1 33)) 34 (X1 34)) 35 (X1 35)) 36 (ua (ua (τ 36) 0 ((cpS A (lyS A (((48 * day) + slot) - 1) (τ 31) (τ 32) (τ 33) (τ 34) (τ 35)) (lyS A ((48 * day) + slot) (τ 25) (τ 26) (τ 27) (τ 28) (τ 29)) (zt (τ 37) 13) (zt (τ 38) 13) (s7q (τ 41) 13) (A 1).toNat).1)) 1 ((cpS A (lyS A (((48 * day) + slot) - 1) (τ 31) (τ 32) (τ 33) (τ 34) (τ 35)) (lyS A ((48 * day) + slot) (τ 25) (τ 26) (τ 27) (τ 28) (τ 29)) (zt (τ 37) 13) (zt (τ 38) 13) (s7q (τ 41) 13) (A 1).toNat).2.1))) 37 (cpS A (lyS A (((48 * day) + slot) - 1) (τ 31) (τ 32) (τ 33) (τ 34) (τ 35)) (lyS A ((48 * day) + slot) (τ 25) (τ 26) (τ 27) (τ 28) (τ 29)) (zt (τ 37) 13) (zt (τ 38) 13) (s7q (τ 41) 13) (A 1).toNat).2.2.1) 38 (cpS A (lyS A (((48 * day) + slot) - 1) (τ 31) (τ 32) (τ 33) (τ 34) (τ 35)) (lyS A ((48 * day) + slot) (τ 25) (τ 26) (τ 27) (τ 28) (τ 29)) (zt (τ 37) 13) (zt (τ 38) 13) (s7q (τ 41) 13) (A 1).toNat).2.2.2.1) 41 (cpS A (lyS A (((48 * day) + slot) - 1) (τ 31) (τ 32) (τ 33) (τ 34) (τ 35)) (lyS A ((48 * day) + slot) (τ 25) (τ 26) (τ 27) (τ 28) (τ 29)) (zt (τ 37) 13) (zt (τ 38) 13) (s7q (τ 41) 13) (A 1).toNat).2.2.2.2) (by first | rfl | (funext j9; by_cases hj18 : j9 = 18; (subst hj18; first | rfl | exact ua_ua | exact ua_mid (by decide) | (funext i9; simp only [sA, ua]; (repeat' split) <;> first | rfl | (exfalso; omega) | (subst_vars; rfl))); by_cases hj25 : j9 = 25; (subst hj25; first | rfl | exact ua_ua | exact ua_mid (by decide) | (funext i9; simp only [sA, ua]; (repeat' split) <;> first | rfl | (exfalso; omega) | (subst_vars; rfl))); by_cases hj26 : j9 = 26; (subst hj26; first | rfl | exact ua_ua | exact ua_mid (by decide) | (funext i9; simp only [sA, ua]; (repeat' split) <;> first | rfl | (exfalso; omega) | (subst_vars; rfl))); by_cases hj27 : j9 = 27; (subst hj27; first | rfl | exact ua_ua | exact ua_mid (by decide) | (funext i9; simp only [sA, ua]; (repeat' split) <;> first | rfl | (exfalso; omega) | (subst_vars; rfl))); by_cases hj28 : j9 = 28; (subst hj28; first | rfl | exact ua_ua | exact ua_mid (by decide) | (funext i9; simp only [sA, ua]; (repeat' split) <;> first | rfl | (exfalso; omega) | (subst_vars; rfl))); by_cases hj29 : j9 = 29; (subst hj29; first | rfl | exact ua_ua | exact ua_mid (by decide) | (funext i9; simp only [sA, ua]; (repeat' split) <;> first | rfl | (exfalso; omega) | (subst_vars; rfl))); by_cases hj31 : j9 = 31; (subst hj31; first | rfl | exact ua_ua | exact ua_mid (by decide) | (funext i9; simp only [sA, ua]; (repeat' split) <;> first | rfl | (exfalso; omega) | (subst_vars; rfl))); by_cases hj32 : j9 = 32; (subst hj32; first | rfl | exact ua_ua | exact ua_mid (by decide) | (funext i9; simp only [sA, ua]; (repeat' split) <;> first | rfl | (exfalso; omega) | (subst_vars; rfl))); by_cases hj33 : j9 = 33; (subst hj33; first | rfl | exact ua_ua | exact ua_mid (by decide) | (funext i9; simp only [sA, ua]; (repeat' split) <;> first | rfl | (exfalso; omega) | (subst_vars; rfl))); by_cases hj34 : j9 = 34; (subst hj34; first | rfl | exact ua_ua | exact ua_mid (by decide) | (funext i9; simp only [sA, ua]; (repeat' split) <;> first | rfl | (exfalso; omega) | (subst_vars; rfl))); by_cases hj35 : j9 = 35; (subst hj35; first | rfl | exact ua_ua | exact ua_mid (by decide) | (funext i9; simp only [sA, ua]; (repeat' split) <;> first | rfl | (exfalso; omega) | (subst_vars; rfl))); by_cases hj36 : j9 = 36; (subst hj36; first | rfl | exact ua_ua | exact ua_mid (by decide) | (funext i9; simp only [sA, ua]; (repeat' split) <;> first | rfl | (exfalso; omega) | (subst_vars; rfl))); by_cases hj37 : j9 = 37; (subst hj37; first | rfl | exact ua_ua | exact ua_mid (by decide) | (funext i9; simp only [sA, ua]; (repeat' split) <;> first | rfl | (exfalso; omega) | (subst_vars; rfl))); by_cases hj38 : j9 = 38; (subst hj38; first | rfl | exact ua_ua | exact ua_mid (by decide) | (funext i9; simp only [sA, ua]; (repeat' split) <;> first | rfl | (exfalso; omega) | (subst_vars; rfl))); by_cases hj41 : j9 = 41; (subst hj41; first | rfl | exact ua_ua | exact ua_mid (by decide) | (funext i9; simp only [sA, ua]; (repeat' split) <;> first | rfl | (exfalso; omega) | (subst_vars; rfl))); simp only [sA, if_neg hj18, if_neg hj25, if_neg hj26, if_neg hj27, if_neg hj28, if_neg hj29, if_neg hj31, if_neg hj32, if_neg hj33, if_neg hj34, if_neg hj35, if_neg hj36, if_neg hj37, if_neg hj38, if_neg hj41])) ?_
        have zcv := cpS_v hwi (by omega) (lyS A (((48 * day) + slot) - 1) (τ 31) (τ 32) (τ 33) (τ 34) (τ 35)) (lyS A ((48 * day) + slot) (τ 25) (τ 26) (τ 27) (τ 28) (τ 29)) (τ 37) (τ 38) (τ 41) (A 1).toNat (by omega)
        obtain ⟨zc1, zc2, zc3, zc4, zc5⟩ := zcv
        have zc6 := su9_le 13 (fun i q => (zc3 i q).1.1)
        have zc7 := su9_le 13 (fun i q => (zc3 i q).2.1.1)
        have zc8 := fun (Sp : Nat → Int) => wdS_v (Sp := Sp) (fun i q => ⟨(zc3 i q).1.1, (zc3 i q).2.1.1⟩) 13 (Nat.le_refl _)
        refine hv_iload_n C 3 4 dX11_change_80 rfl rfl ?_
        refine hv_if_ne C 92 dX11_change_81 (by decide) (by omega) (fun h81 => ?_) (fun h81 => ?_)
        · skip
          refine hv_iload_n C 3 4 dX11_change_92 rfl rfl ?_
          refine hv_iconst C dX11_change_93 ?_
          refine hv_icmp_ne C 107 dX11_change_94 (by decide) (by omega) (by omega) (fun h94 => ?_) (fun h94 => ?_)
          · skip
            have zwd : (cpS A (lyS A (((48 * day) + slot) - 1) (τ 31) (τ 32) (τ 33) (τ 34) (τ 35)) (lyS A ((48 * day) + slot) (τ 25) (τ 26) (τ 27) (τ 28) (τ 29)) (zt (τ 37) 13) (zt (τ 38) 13) (s7q (τ 41) 13) (A 1).toNat).1 + (cpS A (lyS A (((48 * day) + slot) - 1) (τ 31) (τ 32) (τ 33) (τ 34) (τ 35)) (lyS A ((48 * day) + slot) (τ 25) (τ 26) (τ 27) (τ 28) (τ 29)) (zt (τ 37) 13) (zt (τ 38) 13) (s7q (τ 41) 13) (A 1).toNat).2.1 ≤ 7 → ∀ w, w < 13 → (0 ≤ (wdS (cpS A (lyS A (((48 * day) + slot) - 1) (τ 31) (τ 32) (τ 33) (τ 34) (τ 35)) (lyS A ((48 * day) + slot) (τ 25) (τ 26) (τ 27) (τ 28) (τ 29)) (zt (τ 37) 13) (zt (τ 38) 13) (s7q (τ 41) 13) (A 1).toNat).2.2.1 (cpS A (lyS A (((48 * day) + slot) - 1) (τ 31) (τ 32) (τ 33) (τ 34) (τ 35)) (lyS A ((48 * day) + slot) (τ 25) (τ 26) (τ 27) (τ 28) (τ 29)) (zt (τ 37) 13) (zt (τ 38) 13) (s7q (τ 41) 13) (A 1).toNat).2.2.2.1 (cpS A (lyS A (((48 * day) + slot) - 1) (τ 31) (τ 32) (τ 33) (τ 34) (τ 35)) (lyS A ((48 * day) + slot) (τ 25) (τ 26) (τ 27) (τ 28) (τ 29)) (zt (τ 37) 13) (zt (τ 38) 13) (s7q (τ 41) 13) (A 1).toNat).2.2.2.2 13).1 w ∧ (wdS (cpS A (lyS A (((48 * day) + slot) - 1) (τ 31) (τ 32) (τ 33) (τ 34) (τ 35)) (lyS A ((48 * day) + slot) (τ 25) (τ 26) (τ 27) (τ 28) (τ 29)) (zt (τ 37) 13) (zt (τ 38) 13) (s7q (τ 41) 13) (A 1).toNat).2.2.1 (cpS A (lyS A (((48 * day) + slot) - 1) (τ 31) (τ 32) (τ 33) (τ 34) (τ 35)) (lyS A ((48 * day) + slot) (τ 25) (τ 26) (τ 27) (τ 28) (τ 29)) (zt (τ 37) 13) (zt (τ 38) 13) (s7q (τ 41) 13) (A 1).toNat).2.2.2.1 (cpS A (lyS A (((48 * day) + slot) - 1) (τ 31) (τ 32) (τ 33) (τ 34) (τ 35)) (lyS A ((48 * day) + slot) (τ 25) (τ 26) (τ 27) (τ 28) (τ 29)) (zt (τ 37) 13) (zt (τ 38) 13) (s7q (τ 41) 13) (A 1).toNat).2.2.2.2 13).1 w ≤ 7) ∧ (0 ≤ (wdS (cpS A (lyS A (((48 * day) + slot) - 1) (τ 31) (τ 32) (τ 33) (τ 34) (τ 35)) (lyS A ((48 * day) + slot) (τ 25) (τ 26) (τ 27) (τ 28) (τ 29)) (zt (τ 37) 13) (zt (τ 38) 13) (s7q (τ 41) 13) (A 1).toNat).2.2.1 (cpS A (lyS A (((48 * day) + slot) - 1) (τ 31) (τ 32) (τ 33) (τ 34) (τ 35)) (lyS A ((48 * day) + slot) (τ 25) (τ 26) (τ 27) (τ 28) (τ 29)) (zt (τ 37) 13) (zt (τ 38) 13) (s7q (τ 41) 13) (A 1).toNat).2.2.2.1 (cpS A (lyS A (((48 * day) + slot) - 1) (τ 31) (τ 32) (τ 33) (τ 34) (τ 35)) (lyS A ((48 * day) + slot) (τ 25) (τ 26) (τ 27) (τ 28) (τ 29)) (zt (τ 37) 13) (zt (τ 38) 13) (s7q (τ 41) 13) (A 1).toNat).2.2.2.2 13).2 w ∧ (wdS (cpS A (lyS A (((48 * day) + slot) - 1) (τ 31) (τ 32) (τ 33) (τ 34) (τ 35)) (lyS A ((48 * day) + slot) (τ 25) (τ 26) (τ 27) (τ 28) (τ 29)) (zt (τ 37) 13) (zt (τ 38) 13) (s7q (τ 41) 13) (A 1).toNat).2.2.1 (cpS A (lyS A (((48 * day) + slot) - 1) (τ 31) (τ 32) (τ 33) (τ 34) (τ 35)) (lyS A ((48 * day) + slot) (τ 25) (τ 26) (τ 27) (τ 28) (τ 29)) (zt (τ 37) 13) (zt (τ 38) 13) (s7q (τ 41) 13) (A 1).toNat).2.2.2.1 (cpS A (lyS A (((48 * day) + slot) - 1) (τ 31) (τ 32) (τ 33) (τ 34) (τ 35)) (lyS A ((48 * day) + slot) (τ 25) (τ 26) (τ 27) (τ 28) (τ 29)) (zt (τ 37) 13) (zt (τ 38) 13) (s7q (τ 41) 13) (A 1).toNat).2.2.2.2 13).2 w ≤ 7) := chW zc1 zc2 (fun i q => ⟨(zc3 i q).1.1, (zc3 i q).2.1.1⟩)
            have zh38 : ∀ i, i < 12 → inI ((cpS A (lyS A (((48 * day) + slot) - 1) (τ 31) (τ 32) (τ 33) (τ 34) (τ 35)) (lyS A ((48 * day) + slot) (τ 25) (τ 26) (τ 27) (τ 28) (τ 29)) (zt (τ 37) 13) (zt (τ 38) 13) (s7q (τ 41) 13) (A 1).toNat).2.2.2.1 i) := fun i q => by have z := (zc3 i (by omega)).2.1; exact ⟨by omega, by omega⟩
            have zhpq : 0 ≤ (cpS A (lyS A (((48 * day) + slot) - 1) (τ 31) (τ 32) (τ 33) (τ 34) (τ 35)) (lyS A ((48 * day) + slot) (τ 25) (τ 26) (τ 27) (τ 28) (τ 29)) (zt (τ 37) 13) (zt (τ 38) 13) (s7q (τ 41) 13) (A 1).toNat).1 ∧ (cpS A (lyS A (((48 * day) + slot) - 1) (τ 31) (τ 32) (τ 33) (τ 34) (τ 35)) (lyS A ((48 * day) + slot) (τ 25) (τ 26) (τ 27) (τ 28) (τ 29)) (zt (τ 37) 13) (zt (τ 38) 13) (s7q (τ 41) 13) (A 1).toNat).1 ≤ 300 ∧ 0 ≤ (cpS A (lyS A (((48 * day) + slot) - 1) (τ 31) (τ 32) (τ 33) (τ 34) (τ 35)) (lyS A ((48 * day) + slot) (τ 25) (τ 26) (τ 27) (τ 28) (τ 29)) (zt (τ 37) 13) (zt (τ 38) 13) (s7q (τ 41) 13) (A 1).toNat).2.1 ∧ (cpS A (lyS A (((48 * day) + slot) - 1) (τ 31) (τ 32) (τ 33) (τ 34) (τ 35)) (lyS A ((48 * day) + slot) (τ 25) (τ 26) (τ 27) (τ 28) (τ 29)) (zt (τ 37) 13) (zt (τ 38) 13) (s7q (τ 41) 13) (A 1).toNat).2.1 ≤ 300 := by rw [← zc1] at zc6; rw [← zc2] at zc7; have y1 := zc6.2; have y2 := zc7.2; omega
            refine hv_aload_n C 0 1 dX11_change_107 rfl rfl ?_
            refine zc_get C K (v := .ref (b + 36)) 4 rfl hu_12 (by decide) cw_0 rfl fl_X11_33 rfl dX11_change_108 ?_
            refine hv_aload_n C 0 1 dX11_change_111 rfl rfl ?_
            refine zc_get C K (v := .ref (b + 1)) 0 rfl hu_12 (by decide) cw_0 rfl fl_X11_10 rfl dX11_change_112 ?_
            refine zc_get C K (v := .int (iz (τ 1 10))) 10 rfl hu_9 (by decide) (cw_at 1 rfl) rfl fl_X11_234 rfl dX11_change_115 ?_
            refine hv_nm (fun x3 ex3 => ?_)
            have rx3 : inI x3 := by rw [ex3]; exact (by have z := hA 13; omega)
            obtain ⟨hn, rfl⟩ : ∃ n9 : Nat, x3 = (n9 : Int) := ⟨(x3).toNat, by omega⟩
            refine zs_callV [.int (iz ((hn : Nat) : Int))] [] C K (cw_at 36 rfl) rfl (k_X6_leastSeconds l  (sA (sA (sA (sA (sA (sA (sA (sA (sA (sA (sA (sA (sA (sA (sA τ 18 (X2 18)) 25 (lyS A ((48 * day) + slot) (τ 25) (τ 26) (τ 27) (τ 28) (τ 29))) 26 (X2 26)) 27 (X2 27)) 28 (X2 28)) 29 (X2 29)) 31 (lyS A (((48 * day) + slot) - 1) (τ 31) (τ 32) (τ 33) (τ 34) (τ 35))) 32 (X1 32)) 33 (X1 33)) 34 (X1 34)) 35 (X1 35)) 36 (ua (ua (τ 36) 0 ((cpS A (lyS A (((48 * day) + slot) - 1) (τ 31) (τ 32) (τ 33) (τ 34) (τ 35)) (lyS A ((48 * day) + slot) (τ 25) (τ 26) (τ 27) (τ 28) (τ 29)) (zt (τ 37) 13) (zt (τ 38) 13) (s7q (τ 41) 13) (A 1).toNat).1)) 1 ((cpS A (lyS A (((48 * day) + slot) - 1) (τ 31) (τ 32) (τ 33) (τ 34) (τ 35)) (lyS A ((48 * day) + slot) (τ 25) (τ 26) (τ 27) (τ 28) (τ 29)) (zt (τ 37) 13) (zt (τ 38) 13) (s7q (τ 41) 13) (A 1).toNat).2.1))) 37 (cpS A (lyS A (((48 * day) + slot) - 1) (τ 31) (τ 32) (τ 33) (τ 34) (τ 35)) (lyS A ((48 * day) + slot) (τ 25) (τ 26) (τ 27) (τ 28) (τ 29)) (zt (τ 37) 13) (zt (τ 38) 13) (s7q (τ 41) 13) (A 1).toNat).2.2.1) 38 (cpS A (lyS A (((48 * day) + slot) - 1) (τ 31) (τ 32) (τ 33) (τ 34) (τ 35)) (lyS A ((48 * day) + slot) (τ 25) (τ 26) (τ 27) (τ 28) (τ 29)) (zt (τ 37) 13) (zt (τ 38) 13) (s7q (τ 41) 13) (A 1).toNat).2.2.2.1) 41 (cpS A (lyS A (((48 * day) + slot) - 1) (τ 31) (τ 32) (τ 33) (τ 34) (τ 35)) (lyS A ((48 * day) + slot) (τ 25) (τ 26) (τ 27) (τ 28) (τ 29)) (zt (τ 37) 13) (zt (τ 38) 13) (s7q (τ 41) 13) (A 1).toNat).2.2.2.2) hn (by omega) zhpq zh38 (fun i q => (zc3 i q).2.2.1) zwd) ck_X11_247 (by decide) ⟨Nat.zero_le _, Nat.zero_le _⟩ rfl (Nat.le_of_ble_eq_true rfl) dX11_change_118 (fun X4 => ?_)
            refine hv_as ((lsV (cpS A (lyS A (((48 * day) + slot) - 1) (τ 31) (τ 32) (τ 33) (τ 34) (τ 35)) (lyS A ((48 * day) + slot) (τ 25) (τ 26) (τ 27) (τ 28) (τ 29)) (zt (τ 37) 13) (zt (τ 38) 13) (s7q (τ 41) 13) (A 1).toNat).2.2.1 (cpS A (lyS A (((48 * day) + slot) - 1) (τ 31) (τ 32) (τ 33) (τ 34) (τ 35)) (lyS A ((48 * day) + slot) (τ 25) (τ 26) (τ 27) (τ 28) (τ 29)) (zt (τ 37) 13) (zt (τ 38) 13) (s7q (τ 41) 13) (A 1).toNat).2.2.2.1 (cpS A (lyS A (((48 * day) + slot) - 1) (τ 31) (τ 32) (τ 33) (τ 34) (τ 35)) (lyS A ((48 * day) + slot) (τ 25) (τ 26) (τ 27) (τ 28) (τ 29)) (zt (τ 37) 13) (zt (τ 38) 13) (s7q (τ 41) 13) (A 1).toNat).2.2.2.2 (τ 39) (τ 40) (τ 43) (τ 42) hn ((ua (ua (τ 36) 0 ((cpS A (lyS A (((48 * day) + slot) - 1) (τ 31) (τ 32) (τ 33) (τ 34) (τ 35)) (lyS A ((48 * day) + slot) (τ 25) (τ 26) (τ 27) (τ 28) (τ 29)) (zt (τ 37) 13) (zt (τ 38) 13) (s7q (τ 41) 13) (A 1).toNat).1)) 1 ((cpS A (lyS A (((48 * day) + slot) - 1) (τ 31) (τ 32) (τ 33) (τ 34) (τ 35)) (lyS A ((48 * day) + slot) (τ 25) (τ 26) (τ 27) (τ 28) (τ 29)) (zt (τ 37) 13) (zt (τ 38) 13) (s7q (τ 41) 13) (A 1).toNat).2.1)) 0) ((ua (ua (τ 36) 0 ((cpS A (lyS A (((48 * day) + slot) - 1) (τ 31) (τ 32) (τ 33) (τ 34) (τ 35)) (lyS A ((48 * day) + slot) (τ 25) (τ 26) (τ 27) (τ 28) (τ 29)) (zt (τ 37) 13) (zt (τ 38) 13) (s7q (τ 41) 13) (A 1).toNat).1)) 1 ((cpS A (lyS A (((48 * day) + slot) - 1) (τ 31) (τ 32) (τ 33) (τ 34) (τ 35)) (lyS A ((48 * day) + slot) (τ 25) (τ 26) (τ 27) (τ 28) (τ 29)) (zt (τ 37) 13) (zt (τ 38) 13) (s7q (τ 41) 13) (A 1).toNat).2.1)) 1))) rfl ?_
            refine zt_st (τ2 := sA (sA (sA (sA (sA (sA (sA (sA (sA (sA (sA (sA (sA (sA (sA (sA (sA (sA (sA τ 18 (X2 18)) 25 (lyS A ((48 * day) + slot) (τ 25) (τ 26) (τ 27) (τ 28) (τ 29))) 26 (X2 26)) 27 (X2 27)) 28 (X2 28)) 29 (X2 29)) 31 (lyS A (((48 * day) + slot) - 1) (τ 31) (τ 32) (τ 33) (τ 34) (τ 35))) 32 (X1 32)) 33 (X1 33)) 34 (X1 34)) 35 (X1 35)) 36 (X4 36)) 37 (X4 37)) 38 (X4 38)) 39 (X4 39)) 40 (X4 40)) 41 (cpS A (lyS A (((48 * day) + slot) - 1) (τ 31) (τ 32) (τ 33) (τ 34) (τ 35)) (lyS A ((48 * day) + slot) (τ 25) (τ 26) (τ 27) (τ 28) (τ 29)) (zt (τ 37) 13) (zt (τ 38) 13) (s7q (τ 41) 13) (A 1).toNat).2.2.2.2) 42 (X4 42)) 43 (X4 43)) (by rw [sA_comm (j := 41) (k := 36) (by decide), sA_comm (j := 38) (k := 36) (by decide), sA_comm (j := 37) (k := 36) (by decide), sA_sA, sA_comm (j := 41) (k := 37) (by decide), sA_comm (j := 38) (k := 37) (by decide), sA_sA, sA_comm (j := 41) (k := 38) (by decide), sA_sA, sA_comm (j := 41) (k := 39) (by decide), sA_comm (j := 41) (k := 40) (by decide)]; first | done | rfl) ?_
            exact zs_iret C hr hlk (by first | exact if_n (by omega) rfl | (refine if_p (by omega) ?_; first | exact if_p (by omega) rfl | (refine if_n (by omega) ?_; first | exact if_p (by omega) rfl | (refine if_n (by omega) ?_; first | rfl | (rw [show (A 13).toNat = hn by omega] <;> rfl))))) ⟨(sA (sA (sA (sA (sA (sA (sA (sA (sA (sA (sA (sA (sA (sA (sA (sA (sA (sA (sA τ 18 (X2 18)) 25 (lyS A ((48 * day) + slot) (τ 25) (τ 26) (τ 27) (τ 28) (τ 29))) 26 (X2 26)) 27 (X2 27)) 28 (X2 28)) 29 (X2 29)) 31 (lyS A (((48 * day) + slot) - 1) (τ 31) (τ 32) (τ 33) (τ 34) (τ 35))) 32 (X1 32)) 33 (X1 33)) 34 (X1 34)) 35 (X1 35)) 36 (X4 36)) 37 (X4 37)) 38 (X4 38)) 39 (X4 39)) 40 (X4 40)) 41 (cpS A (lyS A (((48 * day) + slot) - 1) (τ 31) (τ 32) (τ 33) (τ 34) (τ 35)) (lyS A ((48 * day) + slot) (τ 25) (τ 26) (τ 27) (τ 28) (τ 29)) (zt (τ 37) 13) (zt (τ 38) 13) (s7q (τ 41) 13) (A 1).toNat).2.2.2.2) 42 (X4 42)) 43 (X4 43)), by first | rfl | (funext j9; by_cases hj18 : j9 = 18; (subst hj18; first | rfl | (funext i9; simp only [sA, ua]; split <;> first | rfl | (subst_vars; rfl))); by_cases hj25 : j9 = 25; (subst hj25; first | rfl | (funext i9; simp only [sA, ua]; split <;> first | rfl | (subst_vars; rfl))); by_cases hj26 : j9 = 26; (subst hj26; first | rfl | (funext i9; simp only [sA, ua]; split <;> first | rfl | (subst_vars; rfl))); by_cases hj27 : j9 = 27; (subst hj27; first | rfl | (funext i9; simp only [sA, ua]; split <;> first | rfl | (subst_vars; rfl))); by_cases hj28 : j9 = 28; (subst hj28; first | rfl | (funext i9; simp only [sA, ua]; split <;> first | rfl | (subst_vars; rfl))); by_cases hj29 : j9 = 29; (subst hj29; first | rfl | (funext i9; simp only [sA, ua]; split <;> first | rfl | (subst_vars; rfl))); by_cases hj31 : j9 = 31; (subst hj31; first | rfl | (funext i9; simp only [sA, ua]; split <;> first | rfl | (subst_vars; rfl))); by_cases hj32 : j9 = 32; (subst hj32; first | rfl | (funext i9; simp only [sA, ua]; split <;> first | rfl | (subst_vars; rfl))); by_cases hj33 : j9 = 33; (subst hj33; first | rfl | (funext i9; simp only [sA, ua]; split <;> first | rfl | (subst_vars; rfl))); by_cases hj34 : j9 = 34; (subst hj34; first | rfl | (funext i9; simp only [sA, ua]; split <;> first | rfl | (subst_vars; rfl))); by_cases hj35 : j9 = 35; (subst hj35; first | rfl | (funext i9; simp only [sA, ua]; split <;> first | rfl | (subst_vars; rfl))); by_cases hj36 : j9 = 36; (subst hj36; first | rfl | (funext i9; simp only [sA, ua]; split <;> first | rfl | (subst_vars; rfl))); by_cases hj37 : j9 = 37; (subst hj37; first | rfl | (funext i9; simp only [sA, ua]; split <;> first | rfl | (subst_vars; rfl))); by_cases hj38 : j9 = 38; (subst hj38; first | rfl | (funext i9; simp only [sA, ua]; split <;> first | rfl | (subst_vars; rfl))); by_cases hj39 : j9 = 39; (subst hj39; first | rfl | (funext i9; simp only [sA, ua]; split <;> first | rfl | (subst_vars; rfl))); by_cases hj40 : j9 = 40; (subst hj40; first | rfl | (funext i9; simp only [sA, ua]; split <;> first | rfl | (subst_vars; rfl))); by_cases hj41 : j9 = 41; (subst hj41; first | rfl | (funext i9; simp only [sA, ua]; split <;> first | rfl | (subst_vars; rfl))); by_cases hj42 : j9 = 42; (subst hj42; first | rfl | (funext i9; simp only [sA, ua]; split <;> first | rfl | (subst_vars; rfl))); by_cases hj43 : j9 = 43; (subst hj43; first | rfl | (funext i9; simp only [sA, ua]; split <;> first | rfl | (subst_vars; rfl))); simp only [sA, if_neg hj18, if_neg hj25, if_neg hj26, if_neg hj27, if_neg hj28, if_neg hj29, if_neg hj31, if_neg hj32, if_neg hj33, if_neg hj34, if_neg hj35, if_neg hj36, if_neg hj37, if_neg hj38, if_neg hj39, if_neg hj40, if_neg hj41, if_neg hj42, if_neg hj43])⟩ dX11_change_121
          · skip
            refine hv_aload_n C 0 1 dX11_change_97 rfl rfl ?_
            refine zc_get C K (v := .ref (b + 36)) 4 rfl hu_12 (by decide) cw_0 rfl fl_X11_33 rfl dX11_change_98 ?_
            refine zc_get C K (v := .int (iz ((cpS A (lyS A (((48 * day) + slot) - 1) (τ 31) (τ 32) (τ 33) (τ 34) (τ 35)) (lyS A ((48 * day) + slot) (τ 25) (τ 26) (τ 27) (τ 28) (τ 29)) (zt (τ 37) 13) (zt (τ 38) 13) (s7q (τ 41) 13) (A 1).toNat).2.1))) 1 rfl hu_7 (by decide) (cw_at 36 rfl) rfl fl_X11_244 rfl dX11_change_101 ?_
            refine hv_goto C 121 dX11_change_104 (by decide) ?_
            exact zs_iret C hr hlk (by first | exact if_n (by omega) rfl | (refine if_p (by omega) ?_; first | exact if_p (by omega) rfl | (refine if_n (by omega) ?_; first | exact if_p (by omega) rfl | (refine if_n (by omega) ?_; first | rfl | (rw [show (A 13).toNat = hn by omega] <;> rfl))))) ⟨(sA (sA (sA (sA (sA (sA (sA (sA (sA (sA (sA (sA (sA (sA (sA τ 18 (X2 18)) 25 (lyS A ((48 * day) + slot) (τ 25) (τ 26) (τ 27) (τ 28) (τ 29))) 26 (X2 26)) 27 (X2 27)) 28 (X2 28)) 29 (X2 29)) 31 (lyS A (((48 * day) + slot) - 1) (τ 31) (τ 32) (τ 33) (τ 34) (τ 35))) 32 (X1 32)) 33 (X1 33)) 34 (X1 34)) 35 (X1 35)) 36 (ua (ua (τ 36) 0 ((cpS A (lyS A (((48 * day) + slot) - 1) (τ 31) (τ 32) (τ 33) (τ 34) (τ 35)) (lyS A ((48 * day) + slot) (τ 25) (τ 26) (τ 27) (τ 28) (τ 29)) (zt (τ 37) 13) (zt (τ 38) 13) (s7q (τ 41) 13) (A 1).toNat).1)) 1 ((cpS A (lyS A (((48 * day) + slot) - 1) (τ 31) (τ 32) (τ 33) (τ 34) (τ 35)) (lyS A ((48 * day) + slot) (τ 25) (τ 26) (τ 27) (τ 28) (τ 29)) (zt (τ 37) 13) (zt (τ 38) 13) (s7q (τ 41) 13) (A 1).toNat).2.1))) 37 (cpS A (lyS A (((48 * day) + slot) - 1) (τ 31) (τ 32) (τ 33) (τ 34) (τ 35)) (lyS A ((48 * day) + slot) (τ 25) (τ 26) (τ 27) (τ 28) (τ 29)) (zt (τ 37) 13) (zt (τ 38) 13) (s7q (τ 41) 13) (A 1).toNat).2.2.1) 38 (cpS A (lyS A (((48 * day) + slot) - 1) (τ 31) (τ 32) (τ 33) (τ 34) (τ 35)) (lyS A ((48 * day) + slot) (τ 25) (τ 26) (τ 27) (τ 28) (τ 29)) (zt (τ 37) 13) (zt (τ 38) 13) (s7q (τ 41) 13) (A 1).toNat).2.2.2.1) 41 (cpS A (lyS A (((48 * day) + slot) - 1) (τ 31) (τ 32) (τ 33) (τ 34) (τ 35)) (lyS A ((48 * day) + slot) (τ 25) (τ 26) (τ 27) (τ 28) (τ 29)) (zt (τ 37) 13) (zt (τ 38) 13) (s7q (τ 41) 13) (A 1).toNat).2.2.2.2), by first | rfl | (funext j9; by_cases hj18 : j9 = 18; (subst hj18; first | rfl | (funext i9; simp only [sA, ua]; split <;> first | rfl | (subst_vars; rfl))); by_cases hj25 : j9 = 25; (subst hj25; first | rfl | (funext i9; simp only [sA, ua]; split <;> first | rfl | (subst_vars; rfl))); by_cases hj26 : j9 = 26; (subst hj26; first | rfl | (funext i9; simp only [sA, ua]; split <;> first | rfl | (subst_vars; rfl))); by_cases hj27 : j9 = 27; (subst hj27; first | rfl | (funext i9; simp only [sA, ua]; split <;> first | rfl | (subst_vars; rfl))); by_cases hj28 : j9 = 28; (subst hj28; first | rfl | (funext i9; simp only [sA, ua]; split <;> first | rfl | (subst_vars; rfl))); by_cases hj29 : j9 = 29; (subst hj29; first | rfl | (funext i9; simp only [sA, ua]; split <;> first | rfl | (subst_vars; rfl))); by_cases hj31 : j9 = 31; (subst hj31; first | rfl | (funext i9; simp only [sA, ua]; split <;> first | rfl | (subst_vars; rfl))); by_cases hj32 : j9 = 32; (subst hj32; first | rfl | (funext i9; simp only [sA, ua]; split <;> first | rfl | (subst_vars; rfl))); by_cases hj33 : j9 = 33; (subst hj33; first | rfl | (funext i9; simp only [sA, ua]; split <;> first | rfl | (subst_vars; rfl))); by_cases hj34 : j9 = 34; (subst hj34; first | rfl | (funext i9; simp only [sA, ua]; split <;> first | rfl | (subst_vars; rfl))); by_cases hj35 : j9 = 35; (subst hj35; first | rfl | (funext i9; simp only [sA, ua]; split <;> first | rfl | (subst_vars; rfl))); by_cases hj36 : j9 = 36; (subst hj36; first | rfl | (funext i9; simp only [sA, ua]; split <;> first | rfl | (subst_vars; rfl))); by_cases hj37 : j9 = 37; (subst hj37; first | rfl | (funext i9; simp only [sA, ua]; split <;> first | rfl | (subst_vars; rfl))); by_cases hj38 : j9 = 38; (subst hj38; first | rfl | (funext i9; simp only [sA, ua]; split <;> first | rfl | (subst_vars; rfl))); by_cases hj39 : j9 = 39; (subst hj39; first | rfl | (funext i9; simp only [sA, ua]; split <;> first | rfl | (subst_vars; rfl))); by_cases hj40 : j9 = 40; (subst hj40; first | rfl | (funext i9; simp only [sA, ua]; split <;> first | rfl | (subst_vars; rfl))); by_cases hj41 : j9 = 41; (subst hj41; first | rfl | (funext i9; simp only [sA, ua]; split <;> first | rfl | (subst_vars; rfl))); by_cases hj42 : j9 = 42; (subst hj42; first | rfl | (funext i9; simp only [sA, ua]; split <;> first | rfl | (subst_vars; rfl))); by_cases hj43 : j9 = 43; (subst hj43; first | rfl | (funext i9; simp only [sA, ua]; split <;> first | rfl | (subst_vars; rfl))); simp only [sA, if_neg hj18, if_neg hj25, if_neg hj26, if_neg hj27, if_neg hj28, if_neg hj29, if_neg hj31, if_neg hj32, if_neg hj33, if_neg hj34, if_neg hj35, if_neg hj36, if_neg hj37, if_neg hj38, if_neg hj39, if_neg hj40, if_neg hj41, if_neg hj42, if_neg hj43])⟩ dX11_change_121
        · skip
          refine hv_aload_n C 0 1 dX11_change_84 rfl rfl ?_
          refine zc_get C K (v := .ref (b + 36)) 4 rfl hu_12 (by decide) cw_0 rfl fl_X11_33 rfl dX11_change_85 ?_
          refine zc_get C K (v := .int (iz ((cpS A (lyS A (((48 * day) + slot) - 1) (τ 31) (τ 32) (τ 33) (τ 34) (τ 35)) (lyS A ((48 * day) + slot) (τ 25) (τ 26) (τ 27) (τ 28) (τ 29)) (zt (τ 37) 13) (zt (τ 38) 13) (s7q (τ 41) 13) (A 1).toNat).1))) 0 rfl hu_7 (by decide) (cw_at 36 rfl) rfl fl_X11_241 rfl dX11_change_88 ?_
          exact zs_iret C hr hlk (by first | exact if_n (by omega) rfl | (refine if_p (by omega) ?_; first | exact if_p (by omega) rfl | (refine if_n (by omega) ?_; first | exact if_p (by omega) rfl | (refine if_n (by omega) ?_; first | rfl | (rw [show (A 13).toNat = hn by omega] <;> rfl))))) ⟨(sA (sA (sA (sA (sA (sA (sA (sA (sA (sA (sA (sA (sA (sA (sA τ 18 (X2 18)) 25 (lyS A ((48 * day) + slot) (τ 25) (τ 26) (τ 27) (τ 28) (τ 29))) 26 (X2 26)) 27 (X2 27)) 28 (X2 28)) 29 (X2 29)) 31 (lyS A (((48 * day) + slot) - 1) (τ 31) (τ 32) (τ 33) (τ 34) (τ 35))) 32 (X1 32)) 33 (X1 33)) 34 (X1 34)) 35 (X1 35)) 36 (ua (ua (τ 36) 0 ((cpS A (lyS A (((48 * day) + slot) - 1) (τ 31) (τ 32) (τ 33) (τ 34) (τ 35)) (lyS A ((48 * day) + slot) (τ 25) (τ 26) (τ 27) (τ 28) (τ 29)) (zt (τ 37) 13) (zt (τ 38) 13) (s7q (τ 41) 13) (A 1).toNat).1)) 1 ((cpS A (lyS A (((48 * day) + slot) - 1) (τ 31) (τ 32) (τ 33) (τ 34) (τ 35)) (lyS A ((48 * day) + slot) (τ 25) (τ 26) (τ 27) (τ 28) (τ 29)) (zt (τ 37) 13) (zt (τ 38) 13) (s7q (τ 41) 13) (A 1).toNat).2.1))) 37 (cpS A (lyS A (((48 * day) + slot) - 1) (τ 31) (τ 32) (τ 33) (τ 34) (τ 35)) (lyS A ((48 * day) + slot) (τ 25) (τ 26) (τ 27) (τ 28) (τ 29)) (zt (τ 37) 13) (zt (τ 38) 13) (s7q (τ 41) 13) (A 1).toNat).2.2.1) 38 (cpS A (lyS A (((48 * day) + slot) - 1) (τ 31) (τ 32) (τ 33) (τ 34) (τ 35)) (lyS A ((48 * day) + slot) (τ 25) (τ 26) (τ 27) (τ 28) (τ 29)) (zt (τ 37) 13) (zt (τ 38) 13) (s7q (τ 41) 13) (A 1).toNat).2.2.2.1) 41 (cpS A (lyS A (((48 * day) + slot) - 1) (τ 31) (τ 32) (τ 33) (τ 34) (τ 35)) (lyS A ((48 * day) + slot) (τ 25) (τ 26) (τ 27) (τ 28) (τ 29)) (zt (τ 37) 13) (zt (τ 38) 13) (s7q (τ 41) 13) (A 1).toNat).2.2.2.2), by first | rfl | (funext j9; by_cases hj18 : j9 = 18; (subst hj18; first | rfl | (funext i9; simp only [sA, ua]; split <;> first | rfl | (subst_vars; rfl))); by_cases hj25 : j9 = 25; (subst hj25; first | rfl | (funext i9; simp only [sA, ua]; split <;> first | rfl | (subst_vars; rfl))); by_cases hj26 : j9 = 26; (subst hj26; first | rfl | (funext i9; simp only [sA, ua]; split <;> first | rfl | (subst_vars; rfl))); by_cases hj27 : j9 = 27; (subst hj27; first | rfl | (funext i9; simp only [sA, ua]; split <;> first | rfl | (subst_vars; rfl))); by_cases hj28 : j9 = 28; (subst hj28; first | rfl | (funext i9; simp only [sA, ua]; split <;> first | rfl | (subst_vars; rfl))); by_cases hj29 : j9 = 29; (subst hj29; first | rfl | (funext i9; simp only [sA, ua]; split <;> first | rfl | (subst_vars; rfl))); by_cases hj31 : j9 = 31; (subst hj31; first | rfl | (funext i9; simp only [sA, ua]; split <;> first | rfl | (subst_vars; rfl))); by_cases hj32 : j9 = 32; (subst hj32; first | rfl | (funext i9; simp only [sA, ua]; split <;> first | rfl | (subst_vars; rfl))); by_cases hj33 : j9 = 33; (subst hj33; first | rfl | (funext i9; simp only [sA, ua]; split <;> first | rfl | (subst_vars; rfl))); by_cases hj34 : j9 = 34; (subst hj34; first | rfl | (funext i9; simp only [sA, ua]; split <;> first | rfl | (subst_vars; rfl))); by_cases hj35 : j9 = 35; (subst hj35; first | rfl | (funext i9; simp only [sA, ua]; split <;> first | rfl | (subst_vars; rfl))); by_cases hj36 : j9 = 36; (subst hj36; first | rfl | (funext i9; simp only [sA, ua]; split <;> first | rfl | (subst_vars; rfl))); by_cases hj37 : j9 = 37; (subst hj37; first | rfl | (funext i9; simp only [sA, ua]; split <;> first | rfl | (subst_vars; rfl))); by_cases hj38 : j9 = 38; (subst hj38; first | rfl | (funext i9; simp only [sA, ua]; split <;> first | rfl | (subst_vars; rfl))); by_cases hj39 : j9 = 39; (subst hj39; first | rfl | (funext i9; simp only [sA, ua]; split <;> first | rfl | (subst_vars; rfl))); by_cases hj40 : j9 = 40; (subst hj40; first | rfl | (funext i9; simp only [sA, ua]; split <;> first | rfl | (subst_vars; rfl))); by_cases hj41 : j9 = 41; (subst hj41; first | rfl | (funext i9; simp only [sA, ua]; split <;> first | rfl | (subst_vars; rfl))); by_cases hj42 : j9 = 42; (subst hj42; first | rfl | (funext i9; simp only [sA, ua]; split <;> first | rfl | (subst_vars; rfl))); by_cases hj43 : j9 = 43; (subst hj43; first | rfl | (funext i9; simp only [sA, ua]; split <;> first | rfl | (subst_vars; rfl))); simp only [sA, if_neg hj18, if_neg hj25, if_neg hj26, if_neg hj27, if_neg hj28, if_neg hj29, if_neg hj31, if_neg hj32, if_neg hj33, if_neg hj34, if_neg hj35, if_neg hj36, if_neg hj37, if_neg hj38, if_neg hj39, if_neg hj40, if_neg hj41, if_neg hj42, if_neg hj43])⟩ dX11_change_91
      · skip
        refine hv_iconst C dX11_change_23 ?_
        exact zs_iret C hr hlk (by first | exact if_n (by omega) rfl | (refine if_p (by omega) ?_; first | exact if_p (by omega) rfl | (refine if_n (by omega) ?_; first | exact if_p (by omega) rfl | (refine if_n (by omega) ?_; first | rfl | (rw [show (A 13).toNat = hn by omega] <;> rfl))))) ⟨τ, by first | rfl | (funext j9; by_cases hj18 : j9 = 18; (subst hj18; first | rfl | (funext i9; simp only [sA, ua]; split <;> first | rfl | (subst_vars; rfl))); by_cases hj25 : j9 = 25; (subst hj25; first | rfl | (funext i9; simp only [sA, ua]; split <;> first | rfl | (subst_vars; rfl))); by_cases hj26 : j9 = 26; (subst hj26; first | rfl | (funext i9; simp only [sA, ua]; split <;> first | rfl | (subst_vars; rfl))); by_cases hj27 : j9 = 27; (subst hj27; first | rfl | (funext i9; simp only [sA, ua]; split <;> first | rfl | (subst_vars; rfl))); by_cases hj28 : j9 = 28; (subst hj28; first | rfl | (funext i9; simp only [sA, ua]; split <;> first | rfl | (subst_vars; rfl))); by_cases hj29 : j9 = 29; (subst hj29; first | rfl | (funext i9; simp only [sA, ua]; split <;> first | rfl | (subst_vars; rfl))); by_cases hj31 : j9 = 31; (subst hj31; first | rfl | (funext i9; simp only [sA, ua]; split <;> first | rfl | (subst_vars; rfl))); by_cases hj32 : j9 = 32; (subst hj32; first | rfl | (funext i9; simp only [sA, ua]; split <;> first | rfl | (subst_vars; rfl))); by_cases hj33 : j9 = 33; (subst hj33; first | rfl | (funext i9; simp only [sA, ua]; split <;> first | rfl | (subst_vars; rfl))); by_cases hj34 : j9 = 34; (subst hj34; first | rfl | (funext i9; simp only [sA, ua]; split <;> first | rfl | (subst_vars; rfl))); by_cases hj35 : j9 = 35; (subst hj35; first | rfl | (funext i9; simp only [sA, ua]; split <;> first | rfl | (subst_vars; rfl))); by_cases hj36 : j9 = 36; (subst hj36; first | rfl | (funext i9; simp only [sA, ua]; split <;> first | rfl | (subst_vars; rfl))); by_cases hj37 : j9 = 37; (subst hj37; first | rfl | (funext i9; simp only [sA, ua]; split <;> first | rfl | (subst_vars; rfl))); by_cases hj38 : j9 = 38; (subst hj38; first | rfl | (funext i9; simp only [sA, ua]; split <;> first | rfl | (subst_vars; rfl))); by_cases hj39 : j9 = 39; (subst hj39; first | rfl | (funext i9; simp only [sA, ua]; split <;> first | rfl | (subst_vars; rfl))); by_cases hj40 : j9 = 40; (subst hj40; first | rfl | (funext i9; simp only [sA, ua]; split <;> first | rfl | (subst_vars; rfl))); by_cases hj41 : j9 = 41; (subst hj41; first | rfl | (funext i9; simp only [sA, ua]; split <;> first | rfl | (subst_vars; rfl))); by_cases hj42 : j9 = 42; (subst hj42; first | rfl | (funext i9; simp only [sA, ua]; split <;> first | rfl | (subst_vars; rfl))); by_cases hj43 : j9 = 43; (subst hj43; first | rfl | (funext i9; simp only [sA, ua]; split <;> first | rfl | (subst_vars; rfl))); simp only [sA, if_neg hj18, if_neg hj25, if_neg hj26, if_neg hj27, if_neg hj28, if_neg hj29, if_neg hj31, if_neg hj32, if_neg hj33, if_neg hj34, if_neg hj35, if_neg hj36, if_neg hj37, if_neg hj38, if_neg hj39, if_neg hj40, if_neg hj41, if_neg hj42, if_neg hj43])⟩ dX11_change_24
