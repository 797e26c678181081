theorem hk_b (A : Nat → Int) (s : Nat) (d t w : Int) : ∀ (f h : Nat) (kept : Int), hk9 A s d t w f h kept = kept ∨ ∃ x : Nat, hk9 A s d t w f h kept = (x : Int) ∧ (A (280 + 8 * x + 6) / 2 ^ s % 2 ^ 1 = 1 ∨ A (280 + 8 * x + 6) = 0)
  | 0, _, _ => Or.inl rfl
  | f + 1, h, kept => by
    have i1 := hk_b A s d t w f (h + 1) kept
    have i2 := hk_b A s d t w f (h + 1) (h : Int)
    unfold hk9
    split
    · split
      · next c => exact Or.inr ⟨h, rfl, Or.inl c⟩
      · split
        · next c =>
          rcases i2 with q | q
          · exact Or.inr ⟨h, q, Or.inr c.1⟩
          · exact Or.inr q
        · exact i1
    · exact i1
theorem own_ge (A : Nat → Int) (s : Nat) (d t : Int) : 200 ≤ own A s d t := by unfold own; split <;> decide
theorem sd_b {A : Nat → Int} {s h : Nat} {d t : Int} (hh : h < 100) (e : sd A s d t = (h : Int)) : A (280 + 8 * h + 6) / 2 ^ s % 2 ^ 1 = 1 ∨ A (280 + 8 * h + 6) = 0 := by
  have hb := bk_m A (s : Int) d t (A 5).toNat
  have ho := own_ge A s d t
  unfold sd at e
  split at e
  · omega
  · rw [hk_sh] at e
    split at e
    · rcases hk_b A s d t (member A s d) (A 4).toNat 0 (-1) with q | q
      · omega
      · obtain ⟨x, q1, q2⟩ := q
        have : x = h := by omega
        subst this
        exact q2
    · omega
theorem pd1_0 {A : Nat → Int} {s h : Nat} (hh : h < 100) (e1 : ¬ A (280 + 8 * h + 6) = 0) (e2 : ¬ A (280 + 8 * h + 6) / 2 ^ s % 2 ^ 1 = 1) : ∀ i, pd1 A s h i = 0
  | 0 => rfl
  | i + 1 => by
    unfold pd1
    rw [pd1_0 hh e1 e2 i, if_neg (fun z => by rcases sd_b hh z with q | q; exact e2 q; exact e1 q)]
    rfl
theorem bit_0 {x : Int} {s : Nat} (h : x / 2 ^ s % 2 ^ 1 = 1) : ¬ x = 0 := by
  intro e
  subst e
  rw [Int.zero_ediv] at h
  exact absurd h (by decide)
theorem lst_m (A : Nat → Int) (s : Nat) {k : Int} (hk : k < 0) : ∀ (f h : Nat) (n : Int), 0 ≤ n → lst A s k f h n = -1
  | 0, _, _, _ => rfl
  | f + 1, h, n, hn => by
    unfold lst
    split
    · rw [if_neg (by omega)]; exact lst_m A s hk f (h + 1) (n + 1) (by omega)
    · exact lst_m A s hk f (h + 1) n hn
theorem lst_s {A : Nat → Int} {s h f : Nat} {k n : Int} (hf : 0 < f) : lst A s k f h n = if hsn A h ∧ ¬ A (280 + 8 * h + 6) / 2 ^ s % 2 ^ 1 = 0 ∧ ¬ member A s (A (280 + 8 * h + 1)) = A (280 + 8 * h + 0) then (if n = k then (h : Int) else lst A s k (f - 1) (h + 1) (n + 1)) else lst A s k (f - 1) (h + 1) n := by
  obtain ⟨g, rfl⟩ : ∃ q, f = q + 1 := ⟨f - 1, by omega⟩
  rfl

theorem dX11_paid_0 : decode cX11_paid 0 = .ok (.aload_n 0, 1) := by decide +kernel
theorem dX11_paid_1 : decode cX11_paid 1 = .ok (.iload_n 1, 1) := by decide +kernel
theorem dX11_paid_2 : decode cX11_paid 2 = .ok (.invokevirtual 112, 3) := by decide +kernel
theorem dX11_paid_5 : decode cX11_paid 5 = .ok (.ifCond .eq 22, 3) := by decide +kernel
theorem dX11_paid_8 : decode cX11_paid 8 = .ok (.iload_n 2, 1) := by decide +kernel
theorem dX11_paid_9 : decode cX11_paid 9 = .ok (.invokestatic 86, 3) := by decide +kernel
theorem dX11_paid_12 : decode cX11_paid 12 = .ok (.ifCond .eq 15, 3) := by decide +kernel
theorem dX11_paid_15 : decode cX11_paid 15 = .ok (.iload_n 3, 1) := by decide +kernel
theorem dX11_paid_16 : decode cX11_paid 16 = .ok (.invokestatic 86, 3) := by decide +kernel
theorem dX11_paid_19 : decode cX11_paid 19 = .ok (.ifCond .eq 8, 3) := by decide +kernel
theorem dX11_paid_22 : decode cX11_paid 22 = .ok (.iload_n 2, 1) := by decide +kernel
theorem dX11_paid_23 : decode cX11_paid 23 = .ok (.iload_n 3, 1) := by decide +kernel
theorem dX11_paid_24 : decode cX11_paid 24 = .ok (.if_icmp .le 5, 3) := by decide +kernel
theorem dX11_paid_27 : decode cX11_paid 27 = .ok (.iconst (-1), 1) := by decide +kernel
theorem dX11_paid_28 : decode cX11_paid 28 = .ok (.ireturn, 1) := by decide +kernel
theorem dX11_paid_29 : decode cX11_paid 29 = .ok (.iconst 0, 1) := by decide +kernel
theorem dX11_paid_30 : decode cX11_paid 30 = .ok (.istore 4, 2) := by decide +kernel
theorem dX11_paid_32 : decode cX11_paid 32 = .ok (.iconst 0, 1) := by decide +kernel
theorem dX11_paid_33 : decode cX11_paid 33 = .ok (.istore 5, 2) := by decide +kernel
theorem dX11_paid_35 : decode cX11_paid 35 = .ok (.iload 5, 2) := by decide +kernel
theorem dX11_paid_37 : decode cX11_paid 37 = .ok (.aload_n 0, 1) := by decide +kernel
theorem dX11_paid_38 : decode cX11_paid 38 = .ok (.getfield 10, 3) := by decide +kernel
theorem dX11_paid_41 : decode cX11_paid 41 = .ok (.getfield 124, 3) := by decide +kernel
theorem dX11_paid_44 : decode cX11_paid 44 = .ok (.invokevirtual 52, 3) := by decide +kernel
theorem dX11_paid_47 : decode cX11_paid 47 = .ok (.if_icmp .ge 70, 3) := by decide +kernel
theorem dX11_paid_50 : decode cX11_paid 50 = .ok (.aload_n 0, 1) := by decide +kernel
theorem dX11_paid_51 : decode cX11_paid 51 = .ok (.getfield 10, 3) := by decide +kernel
theorem dX11_paid_54 : decode cX11_paid 54 = .ok (.getfield 124, 3) := by decide +kernel
theorem dX11_paid_57 : decode cX11_paid 57 = .ok (.iload 5, 2) := by decide +kernel
theorem dX11_paid_59 : decode cX11_paid 59 = .ok (.invokevirtual 146, 3) := by decide +kernel
theorem dX11_paid_62 : decode cX11_paid 62 = .ok (.checkcast 130, 3) := by decide +kernel
theorem dX11_paid_65 : decode cX11_paid 65 = .ok (.astore 6, 2) := by decide +kernel
theorem dX11_paid_67 : decode cX11_paid 67 = .ok (.aload_n 0, 1) := by decide +kernel
theorem dX11_paid_68 : decode cX11_paid 68 = .ok (.getfield 10, 3) := by decide +kernel
theorem dX11_paid_71 : decode cX11_paid 71 = .ok (.aload 6, 2) := by decide +kernel
theorem dX11_paid_73 : decode cX11_paid 73 = .ok (.iload_n 1, 1) := by decide +kernel
theorem dX11_paid_74 : decode cX11_paid 74 = .ok (.invokevirtual 251, 3) := by decide +kernel
theorem dX11_paid_77 : decode cX11_paid 77 = .ok (.ifCond .eq 34, 3) := by decide +kernel
theorem dX11_paid_80 : decode cX11_paid 80 = .ok (.aload 6, 2) := by decide +kernel
theorem dX11_paid_82 : decode cX11_paid 82 = .ok (.getfield 153, 3) := by decide +kernel
theorem dX11_paid_85 : decode cX11_paid 85 = .ok (.bipush 48, 2) := by decide +kernel
theorem dX11_paid_87 : decode cX11_paid 87 = .ok (.idiv, 1) := by decide +kernel
theorem dX11_paid_88 : decode cX11_paid 88 = .ok (.iload_n 2, 1) := by decide +kernel
theorem dX11_paid_89 : decode cX11_paid 89 = .ok (.iload_n 3, 1) := by decide +kernel
theorem dX11_paid_90 : decode cX11_paid 90 = .ok (.invokestatic 62, 3) := by decide +kernel
theorem dX11_paid_93 : decode cX11_paid 93 = .ok (.ifCond .eq 18, 3) := by decide +kernel
theorem dX11_paid_96 : decode cX11_paid 96 = .ok (.iload 4, 2) := by decide +kernel
theorem dX11_paid_98 : decode cX11_paid 98 = .ok (.aload_n 0, 1) := by decide +kernel
theorem dX11_paid_99 : decode cX11_paid 99 = .ok (.getfield 10, 3) := by decide +kernel
theorem dX11_paid_102 : decode cX11_paid 102 = .ok (.iload_n 1, 1) := by decide +kernel
theorem dX11_paid_103 : decode cX11_paid 103 = .ok (.iload 5, 2) := by decide +kernel
theorem dX11_paid_105 : decode cX11_paid 105 = .ok (.invokevirtual 255, 3) := by decide +kernel
theorem dX11_paid_108 : decode cX11_paid 108 = .ok (.iadd, 1) := by decide +kernel
theorem dX11_paid_109 : decode cX11_paid 109 = .ok (.istore 4, 2) := by decide +kernel
theorem dX11_paid_111 : decode cX11_paid 111 = .ok (.iinc 5 1, 3) := by decide +kernel
theorem dX11_paid_114 : decode cX11_paid 114 = .ok (.goto (-79), 3) := by decide +kernel
theorem dX11_paid_117 : decode cX11_paid 117 = .ok (.iload 4, 2) := by decide +kernel
theorem dX11_paid_119 : decode cX11_paid 119 = .ok (.ireturn, 1) := by decide +kernel
theorem ck_X11_251 : zcV RX11 RX8 yX8_isSoldTo cX8_isSoldTo 3 (some .boolean) 251 2 := ⟨hk_tq4 132 (by decide +kernel) (by decide +kernel), hk_tq5 9 (by decide +kernel) (by decide +kernel), hk_tq1 2 (by decide +kernel) (by decide +kernel), ⟨by decide, by decide, by decide +kernel⟩, hk_tq4 130 (by decide +kernel) (by decide +kernel), hk_tq4 131 (by decide +kernel) (by decide +kernel)⟩
theorem ck_X11_255 : zcV RX11 RX8 yX8_payFor cX8_payFor 7 (some .int) 255 2 := ⟨hk_tq5 13 (by decide +kernel) (by decide +kernel), hk_tq5 10 (by decide +kernel) (by decide +kernel), hk_tq1 2 (by decide +kernel) (by decide +kernel), ⟨by decide, by decide, by decide +kernel⟩, hk_tq5 11 (by decide +kernel) (by decide +kernel), hk_tq5 12 (by decide +kernel) (by decide +kernel)⟩
set_option maxRecDepth 100000 in
set_option maxHeartbeats 4000000 in
theorem k_X11_paid (l : Launch) {D : va_G} {ar : Nat → ClassId} {B : Nat → Prop} {b n : Nat} {w0 : zcW} (A : Nat → Int) (τ : Nat → Nat → Int) (st : Int) (a : Int) (b9 : Int) (hA : ∀ i, inI (A i)) (hR : Rel9 ar b w0 A τ) (hs : si A) (hh : hi A) (hl : li A) (hlj : lj9 A) (hc : cn A) (hm : mI A) (hb : bI A) (r_st : inI st) (r_a : inI a) (r_b9 : inI b9) : zx_M l D ar B b w0 n yX11_paid cX11_paid 7 (some .int) 7 178 [.ref b, .int (iz st), .int (iz a), .int (iz b9)] τ (some (.int (iz (if (0 ≤ st ∧ st ≤ A 2 - 1) ∧ ((0 ≤ a ∧ a ≤ 199) ∧ (a ≤ b9 ∧ b9 ≤ 199)) then pd A st.toNat a b9 (A 4).toNat else -1)))) := by
  refine zc_start (own := RX11) (by decide +kernel) rfl (Nat.le_of_ble_eq_true rfl) ?_
  intro p e s m args below meth c C K hr hlk hnam
  have n7 := hR.l7.1
  refine hv_aload_n C 0 0 dX11_paid_0 rfl rfl ?_
  refine hv_iload_n C 1 1 dX11_paid_1 rfl rfl ?_
  refine zt_callV [.int (iz st)] [] C K cw_0 rfl (k_X11_isStation l A τ st hA hR (by omega) hc) ck_X11_112 (by decide) ⟨Nat.zero_le _, Nat.zero_le _⟩ rfl (Nat.le_of_ble_eq_true rfl) dX11_paid_2 ?_
  refine hv_as (xb (decide (0 ≤ st ∧ st ≤ A 2 - 1))) rfl ?_
  refine hv_dif_eq C 27 dX11_paid_5 (by decide)  (fun h5 => ?_) (fun h5 => ?_)
  · skip
    refine hv_iconst C dX11_paid_27 ?_
    exact zx_iret C hr hlk (by (try simp only [Int.toNat_natCast] at *); first | exact if_n (by omega) rfl | (refine if_p (by omega) ?_; rw [hsm, show (A 4).toNat = h by omega])) ⟨τ 18, (sA_id τ 18).symm⟩ dX11_paid_28
  · skip
    refine hv_iload_n C 2 2 dX11_paid_8 rfl rfl ?_
    refine zt_callS [.int (iz a)] [] C K (k_X11_isDay l  τ a (by omega)) ck_X11_86 (by decide) ⟨Nat.zero_le _, Nat.zero_le _⟩ rfl (Nat.le_of_ble_eq_true rfl) dX11_paid_9 ?_
    refine hv_as (xb (decide (0 ≤ a ∧ a ≤ 199))) rfl ?_
    refine hv_dif_eq C 27 dX11_paid_12 (by decide)  (fun h12 => ?_) (fun h12 => ?_)
    · skip
      refine hv_iconst C dX11_paid_27 ?_
      exact zx_iret C hr hlk (by (try simp only [Int.toNat_natCast] at *); first | exact if_n (by omega) rfl | (refine if_p (by omega) ?_; rw [hsm, show (A 4).toNat = h by omega])) ⟨τ 18, (sA_id τ 18).symm⟩ dX11_paid_28
    · skip
      refine hv_iload_n C 3 3 dX11_paid_15 rfl rfl ?_
      refine zt_callS [.int (iz b9)] [] C K (k_X11_isDay l  τ b9 (by omega)) ck_X11_86 (by decide) ⟨Nat.zero_le _, Nat.zero_le _⟩ rfl (Nat.le_of_ble_eq_true rfl) dX11_paid_16 ?_
      refine hv_as (xb (decide (0 ≤ b9 ∧ b9 ≤ 199))) rfl ?_
      refine hv_dif_eq C 27 dX11_paid_19 (by decide)  (fun h19 => ?_) (fun h19 => ?_)
      · skip
        refine hv_iconst C dX11_paid_27 ?_
        exact zx_iret C hr hlk (by (try simp only [Int.toNat_natCast] at *); first | exact if_n (by omega) rfl | (refine if_p (by omega) ?_; rw [hsm, show (A 4).toNat = h by omega])) ⟨τ 18, (sA_id τ 18).symm⟩ dX11_paid_28
      · skip
        refine hv_iload_n C 2 2 dX11_paid_22 rfl rfl ?_
        refine hv_iload_n C 3 3 dX11_paid_23 rfl rfl ?_
        refine hv_icmp_le C 29 dX11_paid_24 (by decide) (by omega) (by omega) (fun h24 => ?_) (fun h24 => ?_)
        · skip
          obtain ⟨sn, rfl⟩ : ∃ n9 : Nat, st = (n9 : Int) := ⟨(st).toNat, by omega⟩
          (try simp only [Int.toNat_natCast] at *)
          refine hv_iconst C dX11_paid_29 ?_
          refine hv_istore C 4 [(4, .int (iz 0)), (0, .ref b), (1, .int (iz ((sn : Nat) : Int))), (2, .int (iz a)), (3, .int (iz b9))] dX11_paid_30 (by decide) rfl ?_
          refine hv_iconst C dX11_paid_32 ?_
          refine hv_istore C 5 [(5, .int (iz 0)), (4, .int (iz 0)), (0, .ref b), (1, .int (iz ((sn : Nat) : Int))), (2, .int (iz a)), (3, .int (iz b9))] dX11_paid_33 (by decide) rfl ?_
          have L35 : ∀ (f : Nat) (sm : Int) (h : Nat) (X : Nat → Int), (A 4).toNat - h < f → ((h : Int) ≤ A 4) → (sm = pd A sn a b9 h) → hvV p l e { frames := 7, cells := 0, slots := 0, locals := 178 } s m args below meth c 7 B 0 0 (MQ below (zc_Q D B (fun r' w' n' => r' = (some (.int (iz (if (0 ≤ ((sn : Nat) : Int) ∧ ((sn : Nat) : Int) ≤ A 2 - 1) ∧ ((0 ≤ a ∧ a ≤ 199) ∧ (a ≤ b9 ∧ b9 ≤ 199)) then pd A ((sn : Nat) : Int).toNat a b9 (A 4).toNat else -1)))) ∧ (∃ X, w' = cw ar b (sA τ 18 X) w0) ∧ n' = n)) args s 0 0 B) (zc_I D B (cw ar b (sA τ 18 X) w0) n s.heap) 35 [(0, .ref b), (1, .int (iz ((sn : Nat) : Int))), (2, .int (iz a)), (3, .int (iz b9)), (4, .int (iz sm)), (5, .int (iz ((h : Nat) : Int)))] [] := by
            intro f
            induction f with
            | zero => intro _ _ _ hm; exact absurd hm (Nat.not_lt_zero _)
            | succ f ih35 =>
              intro sm h X hm35 hh9 hsm
              refine hv_iload C 5 5 dX11_paid_35 rfl ?_
              refine hv_aload_n C 0 0 dX11_paid_37 rfl rfl ?_
              refine zc_get C K (v := .ref (b + 1)) 0 rfl hu_12 (by decide) cw_0 rfl fl_X11_10 rfl dX11_paid_38 ?_
              refine zc_get C K (v := .ref (b + 7)) 6 rfl hu_9 (by decide) (cw_at 1 rfl) rfl fl_X11_124 rfl dX11_paid_41 ?_
              refine zt_callV [] [.int (iz ((h : Nat) : Int))] C K (cw_at 7 rfl) rfl (k_Jx4a65c_size_8abf5 l 7 (sA τ 18 X)  rfl) ck_X11_52 (by decide) ⟨Nat.zero_le _, Nat.zero_le _⟩ rfl (Nat.le_of_ble_eq_true rfl) dX11_paid_44 ?_
              refine hv_as ((τ 7 2)) rfl ?_
              refine hv_nm (fun x1 ex1 => ?_)
              have rx1 : inI x1 := by rw [ex1]; exact (by have z := hA 4; omega)
              refine hv_icmp_ge C 117 dX11_paid_47 (by decide) (by omega) (by omega) (fun h47 => ?_) (fun h47 => ?_)
              · skip
                refine hv_iload C 4 4 dX11_paid_117 rfl ?_
                exact zx_iret C hr hlk (by (try simp only [Int.toNat_natCast] at *); first | exact if_n (by omega) rfl | (refine if_p (by omega) ?_; rw [hsm, show (A 4).toNat = h by omega])) ⟨X, rfl⟩ dX11_paid_119
              · skip
                refine hv_aload_n C 0 0 dX11_paid_50 rfl rfl ?_
                refine zc_get C K (v := .ref (b + 1)) 0 rfl hu_12 (by decide) cw_0 rfl fl_X11_10 rfl dX11_paid_51 ?_
                refine zc_get C K (v := .ref (b + 7)) 6 rfl hu_9 (by decide) (cw_at 1 rfl) rfl fl_X11_124 rfl dX11_paid_54 ?_
                refine hv_iload C 5 5 dX11_paid_57 rfl ?_
                obtain ⟨p2, i2, o2⟩ := ((by repeat (first | exact hR | refine rl_sA (by decide) ?_)) : Rel9 ar b w0 A (sA τ 18 X)).l7.2 h (by omega)
                refine zt_callV [.int (iz ((h : Nat) : Int))] [] C K (cw_at 7 rfl) rfl (k_Jx4a65c_get_915e3 l 7 p2 (sA τ 18 X) h rfl i2) ck_X11_146 (by decide) ⟨Nat.zero_le _, Nat.zero_le _⟩ rfl (Nat.le_of_ble_eq_true rfl) dX11_paid_59 ?_
                refine zc_cast C K (cw_ob o2) (hc := rfl) cl_X11_130 dX11_paid_62 ?_
                refine hv_astore C 6 [(6, .ref p2), (0, .ref b), (1, .int (iz ((sn : Nat) : Int))), (2, .int (iz a)), (3, .int (iz b9)), (4, .int (iz sm)), (5, .int (iz ((h : Nat) : Int)))] dX11_paid_65 (by decide) rfl ?_
                have hhk := hh h (by omega)
                refine hv_aload_n C 0 1 dX11_paid_67 rfl rfl ?_
                refine zc_get C K (v := .ref (b + 1)) 0 rfl hu_12 (by decide) cw_0 rfl fl_X11_10 rfl dX11_paid_68 ?_
                refine hv_aload C 6 0 dX11_paid_71 rfl ?_
                refine hv_iload_n C 1 2 dX11_paid_73 rfl rfl ?_
                refine zt_callV [.ref p2, .int (iz ((sn : Nat) : Int))] [] C K (cw_at 1 rfl) rfl (k_X8_isSoldTo l A h p2 (sA τ 18 X) sn hA (by repeat (first | exact hR | refine rl_sA (by decide) ?_)) o2 (by omega)) ck_X11_251 (by decide) ⟨Nat.zero_le _, Nat.zero_le _⟩ rfl (Nat.le_of_ble_eq_true rfl) dX11_paid_74 ?_
                refine hv_as (xb (decide ((A 9 = -1 ∨ A (280 + 8 * h + 7) ≤ A 9) ∧ A (280 + 8 * h + 6) / 2 ^ sn % 2 ^ 1 = 1))) rfl ?_
                refine hv_dif_eq C 111 dX11_paid_77 (by decide)  (fun h77 => ?_) (fun h77 => ?_)
                · skip
                  refine hv_iinc C 5 6 [(5, .int (iz (((h : Nat) : Int) + 1))), (6, .ref p2), (0, .ref b), (1, .int (iz ((sn : Nat) : Int))), (2, .int (iz a)), (3, .int (iz b9)), (4, .int (iz sm))] dX11_paid_111 rfl (by decide) rfl ?_
                  refine hv_goto C 35 dX11_paid_114 (by decide) ?_
                  refine hv_loc [2, 3, 4, 5, 6, 0] [(0, .ref b), (1, .int (iz ((sn : Nat) : Int))), (2, .int (iz a)), (3, .int (iz b9)), (4, .int (iz sm)), (5, .int (iz (((h : Nat) : Int) + 1)))] rfl ?_
                  exact ih35 sm (h + 1) X (by omega) (by omega) (by rw [hsm, pd]; first | (rw [if_pos ⟨h77.1, by omega, bit_0 h77.2⟩]; first | done | omega) | (rw [if_neg (fun z9 => by have z8 := z9.2.1; first | done | omega)]; first | done | omega) | (by_cases z5 : (hsn A h ∧ (a ≤ A (280 + 8 * h + 1) ∧ A (280 + 8 * h + 1) ≤ b9) ∧ ¬ A (280 + 8 * h + 6) = 0); (rw [if_pos z5, pd1_0 (by omega) z5.2.2 (fun z4 => h77 ⟨z5.1, z4⟩)]; first | done | omega); (rw [if_neg z5]; first | done | omega)))
                · skip
                  refine hv_aload C 6 0 dX11_paid_80 rfl ?_
                  refine zc_get C K (v := .int (iz ((48 * (A (280 + 8 * h + 1))) + (A (280 + 8 * h + 2))))) 1 rfl hu_4 (by decide) (cw_ob o2) rfl fl_X11_153 rfl dX11_paid_82 ?_
                  refine hv_bipush C dX11_paid_85 (by decide) ?_
                  refine hv_idiv C (by omega) (by omega) (by omega) (by omega) dX11_paid_87 ?_
                  refine hv_iload_n C 2 3 dX11_paid_88 rfl rfl ?_
                  refine hv_iload_n C 3 4 dX11_paid_89 rfl rfl ?_
                  refine zt_callS [.int (iz (((48 * (A (280 + 8 * h + 1))) + (A (280 + 8 * h + 2))) / 48)), .int (iz a), .int (iz b9)] [] C K (k_X11_within l  (sA τ 18 X) (((48 * (A (280 + 8 * h + 1))) + (A (280 + 8 * h + 2))) / 48) a b9 (by omega) (by omega) (by omega)) ck_X11_62 (by decide) ⟨Nat.zero_le _, Nat.zero_le _⟩ rfl (Nat.le_of_ble_eq_true rfl) dX11_paid_90 ?_
                  refine hv_as (xb (decide (a ≤ (((48 * (A (280 + 8 * h + 1))) + (A (280 + 8 * h + 2))) / 48) ∧ (((48 * (A (280 + 8 * h + 1))) + (A (280 + 8 * h + 2))) / 48) ≤ b9))) rfl ?_
                  refine hv_dif_eq C 111 dX11_paid_93 (by decide)  (fun h93 => ?_) (fun h93 => ?_)
                  · skip
                    refine hv_iinc C 5 6 [(5, .int (iz (((h : Nat) : Int) + 1))), (6, .ref p2), (0, .ref b), (1, .int (iz ((sn : Nat) : Int))), (2, .int (iz a)), (3, .int (iz b9)), (4, .int (iz sm))] dX11_paid_111 rfl (by decide) rfl ?_
                    refine hv_goto C 35 dX11_paid_114 (by decide) ?_
                    refine hv_loc [2, 3, 4, 5, 6, 0] [(0, .ref b), (1, .int (iz ((sn : Nat) : Int))), (2, .int (iz a)), (3, .int (iz b9)), (4, .int (iz sm)), (5, .int (iz (((h : Nat) : Int) + 1)))] rfl ?_
                    exact ih35 sm (h + 1) X (by omega) (by omega) (by rw [hsm, pd]; first | (rw [if_pos ⟨h77.1, by omega, bit_0 h77.2⟩]; first | done | omega) | (rw [if_neg (fun z9 => by have z8 := z9.2.1; first | done | omega)]; first | done | omega) | (by_cases z5 : (hsn A h ∧ (a ≤ A (280 + 8 * h + 1) ∧ A (280 + 8 * h + 1) ≤ b9) ∧ ¬ A (280 + 8 * h + 6) = 0); (rw [if_pos z5, pd1_0 (by omega) z5.2.2 (fun z4 => h77 ⟨z5.1, z4⟩)]; first | done | omega); (rw [if_neg z5]; first | done | omega)))
                  · skip
                    refine hv_iload C 4 5 dX11_paid_96 rfl ?_
                    refine hv_aload_n C 0 1 dX11_paid_98 rfl rfl ?_
                    refine zc_get C K (v := .ref (b + 1)) 0 rfl hu_12 (by decide) cw_0 rfl fl_X11_10 rfl dX11_paid_99 ?_
                    refine hv_iload_n C 1 2 dX11_paid_102 rfl rfl ?_
                    refine hv_iload C 5 6 dX11_paid_103 rfl ?_
                    refine zx_callV [.int (iz ((sn : Nat) : Int)), .int (iz ((h : Nat) : Int))] [.int (iz sm)] C K (cw_at 1 rfl) rfl (k_X8_payFor l A (sA τ 18 X) sn h hA (by repeat (first | exact hR | refine rl_sA (by decide) ?_)) hs hh hl hlj hc hm hb (by omega) (by omega)) ck_X11_255 (by decide) ⟨Nat.zero_le _, Nat.zero_le _⟩ rfl (Nat.le_of_ble_eq_true rfl) dX11_paid_105 (fun X3 => ?_)
                    refine hv_as ((pd1 A sn h (A (280 + 8 * h + 3)).toNat)) rfl ?_
                    refine zt_st (τ2 := sA τ 18 X3) (by rw [sA_sA]) ?_
                    refine hv_iadd C dX11_paid_108 ?_
                    refine hv_istore C 4 [(4, .int (iz (sm + (pd1 A sn h (A (280 + 8 * h + 3)).toNat)))), (6, .ref p2), (0, .ref b), (1, .int (iz ((sn : Nat) : Int))), (2, .int (iz a)), (3, .int (iz b9)), (5, .int (iz ((h : Nat) : Int)))] dX11_paid_109 (by decide) rfl ?_
                    refine hv_iinc C 5 6 [(5, .int (iz (((h : Nat) : Int) + 1))), (4, .int (iz (sm + (pd1 A sn h (A (280 + 8 * h + 3)).toNat)))), (6, .ref p2), (0, .ref b), (1, .int (iz ((sn : Nat) : Int))), (2, .int (iz a)), (3, .int (iz b9))] dX11_paid_111 rfl (by decide) rfl ?_
                    refine hv_goto C 35 dX11_paid_114 (by decide) ?_
                    refine hv_loc [3, 4, 5, 6, 1, 0] [(0, .ref b), (1, .int (iz ((sn : Nat) : Int))), (2, .int (iz a)), (3, .int (iz b9)), (4, .int (iz (sm + (pd1 A sn h (A (280 + 8 * h + 3)).toNat)))), (5, .int (iz (((h : Nat) : Int) + 1)))] rfl ?_
                    exact ih35 (sm + (pd1 A sn h (A (280 + 8 * h + 3)).toNat)) (h + 1) X3 (by omega) (by omega) (by rw [hsm, pd]; first | (rw [if_pos ⟨h77.1, by omega, bit_0 h77.2⟩]; first | done | omega) | (rw [if_neg (fun z9 => by have z8 := z9.2.1; first | done | omega)]; first | done | omega) | (by_cases z5 : (hsn A h ∧ (a ≤ A (280 + 8 * h + 1) ∧ A (280 + 8 * h + 1) ≤ b9) ∧ ¬ A (280 + 8 * h + 6) = 0); (rw [if_pos z5, pd1_0 (by omega) z5.2.2 (fun z4 => h77 ⟨z5.1, z4⟩)]; first | done | omega); (rw [if_neg z5]; first | done | omega)))
          refine hv_loc [2, 3, 4, 5, 1, 0] [(0, .ref b), (1, .int (iz ((sn : Nat) : Int))), (2, .int (iz a)), (3, .int (iz b9)), (4, .int (iz 0)), (5, .int (iz 0))] rfl ?_
          refine zt_st (τ2 := sA τ 18 (τ 18)) ((sA_id τ 18).symm) ?_
          exact L35 _ 0 0 (τ 18) (Nat.lt_succ_self _) (by omega) rfl
        · skip
          refine hv_iconst C dX11_paid_27 ?_
          exact zx_iret C hr hlk (by (try simp only [Int.toNat_natCast] at *); first | exact if_n (by omega) rfl | (refine if_p (by omega) ?_; rw [hsm, show (A 4).toNat = h by omega])) ⟨τ 18, (sA_id τ 18).symm⟩ dX11_paid_28
theorem dX11_owed_0 : decode cX11_owed 0 = .ok (.aload_n 0, 1) := by decide +kernel
theorem dX11_owed_1 : decode cX11_owed 1 = .ok (.iload_n 1, 1) := by decide +kernel
theorem dX11_owed_2 : decode cX11_owed 2 = .ok (.invokevirtual 112, 3) := by decide +kernel
theorem dX11_owed_5 : decode cX11_owed 5 = .ok (.ifCond .eq 22, 3) := by decide +kernel
theorem dX11_owed_8 : decode cX11_owed 8 = .ok (.iload_n 2, 1) := by decide +kernel
theorem dX11_owed_9 : decode cX11_owed 9 = .ok (.invokestatic 86, 3) := by decide +kernel
theorem dX11_owed_12 : decode cX11_owed 12 = .ok (.ifCond .eq 15, 3) := by decide +kernel
theorem dX11_owed_15 : decode cX11_owed 15 = .ok (.iload_n 3, 1) := by decide +kernel
theorem dX11_owed_16 : decode cX11_owed 16 = .ok (.invokestatic 86, 3) := by decide +kernel
theorem dX11_owed_19 : decode cX11_owed 19 = .ok (.ifCond .eq 8, 3) := by decide +kernel
theorem dX11_owed_22 : decode cX11_owed 22 = .ok (.iload_n 2, 1) := by decide +kernel
theorem dX11_owed_23 : decode cX11_owed 23 = .ok (.iload_n 3, 1) := by decide +kernel
theorem dX11_owed_24 : decode cX11_owed 24 = .ok (.if_icmp .le 5, 3) := by decide +kernel
theorem dX11_owed_27 : decode cX11_owed 27 = .ok (.iconst (-1), 1) := by decide +kernel
theorem dX11_owed_28 : decode cX11_owed 28 = .ok (.ireturn, 1) := by decide +kernel
theorem dX11_owed_29 : decode cX11_owed 29 = .ok (.iconst 0, 1) := by decide +kernel
theorem dX11_owed_30 : decode cX11_owed 30 = .ok (.istore 4, 2) := by decide +kernel
theorem dX11_owed_32 : decode cX11_owed 32 = .ok (.iconst 0, 1) := by decide +kernel
theorem dX11_owed_33 : decode cX11_owed 33 = .ok (.istore 5, 2) := by decide +kernel
theorem dX11_owed_35 : decode cX11_owed 35 = .ok (.iload 5, 2) := by decide +kernel
theorem dX11_owed_37 : decode cX11_owed 37 = .ok (.aload_n 0, 1) := by decide +kernel
theorem dX11_owed_38 : decode cX11_owed 38 = .ok (.getfield 10, 3) := by decide +kernel
theorem dX11_owed_41 : decode cX11_owed 41 = .ok (.getfield 124, 3) := by decide +kernel
theorem dX11_owed_44 : decode cX11_owed 44 = .ok (.invokevirtual 52, 3) := by decide +kernel
theorem dX11_owed_47 : decode cX11_owed 47 = .ok (.if_icmp .ge 76, 3) := by decide +kernel
theorem dX11_owed_50 : decode cX11_owed 50 = .ok (.aload_n 0, 1) := by decide +kernel
theorem dX11_owed_51 : decode cX11_owed 51 = .ok (.getfield 10, 3) := by decide +kernel
theorem dX11_owed_54 : decode cX11_owed 54 = .ok (.getfield 124, 3) := by decide +kernel
theorem dX11_owed_57 : decode cX11_owed 57 = .ok (.iload 5, 2) := by decide +kernel
theorem dX11_owed_59 : decode cX11_owed 59 = .ok (.invokevirtual 146, 3) := by decide +kernel
theorem dX11_owed_62 : decode cX11_owed 62 = .ok (.checkcast 130, 3) := by decide +kernel
theorem dX11_owed_65 : decode cX11_owed 65 = .ok (.astore 6, 2) := by decide +kernel
theorem dX11_owed_67 : decode cX11_owed 67 = .ok (.aload_n 0, 1) := by decide +kernel
theorem dX11_owed_68 : decode cX11_owed 68 = .ok (.getfield 10, 3) := by decide +kernel
theorem dX11_owed_71 : decode cX11_owed 71 = .ok (.aload 6, 2) := by decide +kernel
theorem dX11_owed_73 : decode cX11_owed 73 = .ok (.iload_n 1, 1) := by decide +kernel
theorem dX11_owed_74 : decode cX11_owed 74 = .ok (.invokevirtual 251, 3) := by decide +kernel
theorem dX11_owed_77 : decode cX11_owed 77 = .ok (.ifCond .eq 40, 3) := by decide +kernel
theorem dX11_owed_80 : decode cX11_owed 80 = .ok (.aload 6, 2) := by decide +kernel
theorem dX11_owed_82 : decode cX11_owed 82 = .ok (.getfield 153, 3) := by decide +kernel
theorem dX11_owed_85 : decode cX11_owed 85 = .ok (.bipush 48, 2) := by decide +kernel
theorem dX11_owed_87 : decode cX11_owed 87 = .ok (.idiv, 1) := by decide +kernel
theorem dX11_owed_88 : decode cX11_owed 88 = .ok (.iload_n 2, 1) := by decide +kernel
theorem dX11_owed_89 : decode cX11_owed 89 = .ok (.iload_n 3, 1) := by decide +kernel
theorem dX11_owed_90 : decode cX11_owed 90 = .ok (.invokestatic 62, 3) := by decide +kernel
theorem dX11_owed_93 : decode cX11_owed 93 = .ok (.ifCond .eq 24, 3) := by decide +kernel
theorem dX11_owed_96 : decode cX11_owed 96 = .ok (.iload 4, 2) := by decide +kernel
theorem dX11_owed_98 : decode cX11_owed 98 = .ok (.aload 6, 2) := by decide +kernel
theorem dX11_owed_100 : decode cX11_owed 100 = .ok (.getfield 156, 3) := by decide +kernel
theorem dX11_owed_103 : decode cX11_owed 103 = .ok (.aload_n 0, 1) := by decide +kernel
theorem dX11_owed_104 : decode cX11_owed 104 = .ok (.getfield 10, 3) := by decide +kernel
theorem dX11_owed_107 : decode cX11_owed 107 = .ok (.iload_n 1, 1) := by decide +kernel
theorem dX11_owed_108 : decode cX11_owed 108 = .ok (.iload 5, 2) := by decide +kernel
theorem dX11_owed_110 : decode cX11_owed 110 = .ok (.invokevirtual 258, 3) := by decide +kernel
theorem dX11_owed_113 : decode cX11_owed 113 = .ok (.isub, 1) := by decide +kernel
theorem dX11_owed_114 : decode cX11_owed 114 = .ok (.iadd, 1) := by decide +kernel
theorem dX11_owed_115 : decode cX11_owed 115 = .ok (.istore 4, 2) := by decide +kernel
theorem dX11_owed_117 : decode cX11_owed 117 = .ok (.iinc 5 1, 3) := by decide +kernel
theorem dX11_owed_120 : decode cX11_owed 120 = .ok (.goto (-85), 3) := by decide +kernel
theorem dX11_owed_123 : decode cX11_owed 123 = .ok (.iload 4, 2) := by decide +kernel
theorem dX11_owed_125 : decode cX11_owed 125 = .ok (.ireturn, 1) := by decide +kernel
theorem ck_X11_258 : zcV RX11 RX8 yX8_slotsSent cX8_slotsSent 6 (some .int) 258 2 := ⟨hk_tq5 27 (by decide +kernel) (by decide +kernel), hk_tq5 24 (by decide +kernel) (by decide +kernel), hk_tq1 2 (by decide +kernel) (by decide +kernel), ⟨by decide, by decide, by decide +kernel⟩, hk_tq5 25 (by decide +kernel) (by decide +kernel), hk_tq5 26 (by decide +kernel) (by decide +kernel)⟩
set_option maxRecDepth 100000 in
set_option maxHeartbeats 4000000 in
theorem k_X11_owed (l : Launch) {D : va_G} {ar : Nat → ClassId} {B : Nat → Prop} {b n : Nat} {w0 : zcW} (A : Nat → Int) (τ : Nat → Nat → Int) (st : Int) (a : Int) (b9 : Int) (hA : ∀ i, inI (A i)) (hR : Rel9 ar b w0 A τ) (hs : si A) (hh : hi A) (hl : li A) (hlj : lj9 A) (hc : cn A) (hm : mI A) (hb : bI A) (r_st : inI st) (r_a : inI a) (r_b9 : inI b9) : zx_M l D ar B b w0 n yX11_owed cX11_owed 7 (some .int) 7 177 [.ref b, .int (iz st), .int (iz a), .int (iz b9)] τ (some (.int (iz (if (0 ≤ st ∧ st ≤ A 2 - 1) ∧ ((0 ≤ a ∧ a ≤ 199) ∧ (a ≤ b9 ∧ b9 ≤ 199)) then od A st.toNat a b9 (A 4).toNat else -1)))) := by
  refine zc_start (own := RX11) (by decide +kernel) rfl (Nat.le_of_ble_eq_true rfl) ?_
  intro p e s m args below meth c C K hr hlk hnam
  have n7 := hR.l7.1
  refine hv_aload_n C 0 0 dX11_owed_0 rfl rfl ?_
  refine hv_iload_n C 1 1 dX11_owed_1 rfl rfl ?_
  refine zt_callV [.int (iz st)] [] C K cw_0 rfl (k_X11_isStation l A τ st hA hR (by omega) hc) ck_X11_112 (by decide) ⟨Nat.zero_le _, Nat.zero_le _⟩ rfl (Nat.le_of_ble_eq_true rfl) dX11_owed_2 ?_
  refine hv_as (xb (decide (0 ≤ st ∧ st ≤ A 2 - 1))) rfl ?_
  refine hv_dif_eq C 27 dX11_owed_5 (by decide)  (fun h5 => ?_) (fun h5 => ?_)
  · skip
    refine hv_iconst C dX11_owed_27 ?_
    exact zx_iret C hr hlk (by (try simp only [Int.toNat_natCast] at *); first | exact if_n (by omega) rfl | (refine if_p (by omega) ?_; rw [hsm, show (A 4).toNat = h by omega])) ⟨τ 18, (sA_id τ 18).symm⟩ dX11_owed_28
  · skip
    refine hv_iload_n C 2 2 dX11_owed_8 rfl rfl ?_
    refine zt_callS [.int (iz a)] [] C K (k_X11_isDay l  τ a (by omega)) ck_X11_86 (by decide) ⟨Nat.zero_le _, Nat.zero_le _⟩ rfl (Nat.le_of_ble_eq_true rfl) dX11_owed_9 ?_
    refine hv_as (xb (decide (0 ≤ a ∧ a ≤ 199))) rfl ?_
    refine hv_dif_eq C 27 dX11_owed_12 (by decide)  (fun h12 => ?_) (fun h12 => ?_)
    · skip
      refine hv_iconst C dX11_owed_27 ?_
      exact zx_iret C hr hlk (by (try simp only [Int.toNat_natCast] at *); first | exact if_n (by omega) rfl | (refine if_p (by omega) ?_; rw [hsm, show (A 4).toNat = h by omega])) ⟨τ 18, (sA_id τ 18).symm⟩ dX11_owed_28
    · skip
      refine hv_iload_n C 3 3 dX11_owed_15 rfl rfl ?_
      refine zt_callS [.int (iz b9)] [] C K (k_X11_isDay l  τ b9 (by omega)) ck_X11_86 (by decide) ⟨Nat.zero_le _, Nat.zero_le _⟩ rfl (Nat.le_of_ble_eq_true rfl) dX11_owed_16 ?_
      refine hv_as (xb (decide (0 ≤ b9 ∧ b9 ≤ 199))) rfl ?_
      refine hv_dif_eq C 27 dX11_owed_19 (by decide)  (fun h19 => ?_) (fun h19 => ?_)
      · skip
        refine hv_iconst C dX11_owed_27 ?_
        exact zx_iret C hr hlk (by (try simp only [Int.toNat_natCast] at *); first | exact if_n (by omega) rfl | (refine if_p (by omega) ?_; rw [hsm, show (A 4).toNat = h by omega])) ⟨τ 18, (sA_id τ 18).symm⟩ dX11_owed_28
      · skip
        refine hv_iload_n C 2 2 dX11_owed_22 rfl rfl ?_
        refine hv_iload_n C 3 3 dX11_owed_23 rfl rfl ?_
        refine hv_icmp_le C 29 dX11_owed_24 (by decide) (by omega) (by omega) (fun h24 => ?_) (fun h24 => ?_)
        · skip
          obtain ⟨sn, rfl⟩ : ∃ n9 : Nat, st = (n9 : Int) := ⟨(st).toNat, by omega⟩
          (try simp only [Int.toNat_natCast] at *)
          refine hv_iconst C dX11_owed_29 ?_
          refine hv_istore C 4 [(4, .int (iz 0)), (0, .ref b), (1, .int (iz ((sn : Nat) : Int))), (2, .int (iz a)), (3, .int (iz b9))] dX11_owed_30 (by decide) rfl ?_
          refine hv_iconst C dX11_owed_32 ?_
          refine hv_istore C 5 [(5, .int (iz 0)), (4, .int (iz 0)), (0, .ref b), (1, .int (iz ((sn : Nat) : Int))), (2, .int (iz a)), (3, .int (iz b9))] dX11_owed_33 (by decide) rfl ?_
          have L35 : ∀ (f : Nat) (sm : Int) (h : Nat) (X : Nat → Int), (A 4).toNat - h < f → ((h : Int) ≤ A 4) → (sm = od A sn a b9 h) → hvV p l e { frames := 7, cells := 0, slots := 0, locals := 177 } s m args below meth c 7 B 0 0 (MQ below (zc_Q D B (fun r' w' n' => r' = (some (.int (iz (if (0 ≤ ((sn : Nat) : Int) ∧ ((sn : Nat) : Int) ≤ A 2 - 1) ∧ ((0 ≤ a ∧ a ≤ 199) ∧ (a ≤ b9 ∧ b9 ≤ 199)) then od A ((sn : Nat) : Int).toNat a b9 (A 4).toNat else -1)))) ∧ (∃ X, w' = cw ar b (sA τ 18 X) w0) ∧ n' = n)) args s 0 0 B) (zc_I D B (cw ar b (sA τ 18 X) w0) n s.heap) 35 [(0, .ref b), (1, .int (iz ((sn : Nat) : Int))), (2, .int (iz a)), (3, .int (iz b9)), (4, .int (iz sm)), (5, .int (iz ((h : Nat) : Int)))] [] := by
            intro f
            induction f with
            | zero => intro _ _ _ hm; exact absurd hm (Nat.not_lt_zero _)
            | succ f ih35 =>
              intro sm h X hm35 hh9 hsm
              refine hv_iload C 5 5 dX11_owed_35 rfl ?_
              refine hv_aload_n C 0 0 dX11_owed_37 rfl rfl ?_
              refine zc_get C K (v := .ref (b + 1)) 0 rfl hu_12 (by decide) cw_0 rfl fl_X11_10 rfl dX11_owed_38 ?_
              refine zc_get C K (v := .ref (b + 7)) 6 rfl hu_9 (by decide) (cw_at 1 rfl) rfl fl_X11_124 rfl dX11_owed_41 ?_
              refine zt_callV [] [.int (iz ((h : Nat) : Int))] C K (cw_at 7 rfl) rfl (k_Jx4a65c_size_8abf5 l 7 (sA τ 18 X)  rfl) ck_X11_52 (by decide) ⟨Nat.zero_le _, Nat.zero_le _⟩ rfl (Nat.le_of_ble_eq_true rfl) dX11_owed_44 ?_
              refine hv_as ((τ 7 2)) rfl ?_
              refine hv_nm (fun x1 ex1 => ?_)
              have rx1 : inI x1 := by rw [ex1]; exact (by have z := hA 4; omega)
              refine hv_icmp_ge C 123 dX11_owed_47 (by decide) (by omega) (by omega) (fun h47 => ?_) (fun h47 => ?_)
              · skip
                refine hv_iload C 4 4 dX11_owed_123 rfl ?_
                exact zx_iret C hr hlk (by (try simp only [Int.toNat_natCast] at *); first | exact if_n (by omega) rfl | (refine if_p (by omega) ?_; rw [hsm, show (A 4).toNat = h by omega])) ⟨X, rfl⟩ dX11_owed_125
              · skip
                refine hv_aload_n C 0 0 dX11_owed_50 rfl rfl ?_
                refine zc_get C K (v := .ref (b + 1)) 0 rfl hu_12 (by decide) cw_0 rfl fl_X11_10 rfl dX11_owed_51 ?_
                refine zc_get C K (v := .ref (b + 7)) 6 rfl hu_9 (by decide) (cw_at 1 rfl) rfl fl_X11_124 rfl dX11_owed_54 ?_
                refine hv_iload C 5 5 dX11_owed_57 rfl ?_
                obtain ⟨p2, i2, o2⟩ := ((by repeat (first | exact hR | refine rl_sA (by decide) ?_)) : Rel9 ar b w0 A (sA τ 18 X)).l7.2 h (by omega)
                refine zt_callV [.int (iz ((h : Nat) : Int))] [] C K (cw_at 7 rfl) rfl (k_Jx4a65c_get_915e3 l 7 p2 (sA τ 18 X) h rfl i2) ck_X11_146 (by decide) ⟨Nat.zero_le _, Nat.zero_le _⟩ rfl (Nat.le_of_ble_eq_true rfl) dX11_owed_59 ?_
                refine zc_cast C K (cw_ob o2) (hc := rfl) cl_X11_130 dX11_owed_62 ?_
                refine hv_astore C 6 [(6, .ref p2), (0, .ref b), (1, .int (iz ((sn : Nat) : Int))), (2, .int (iz a)), (3, .int (iz b9)), (4, .int (iz sm)), (5, .int (iz ((h : Nat) : Int)))] dX11_owed_65 (by decide) rfl ?_
                have hhk := hh h (by omega)
                refine hv_aload_n C 0 1 dX11_owed_67 rfl rfl ?_
                refine zc_get C K (v := .ref (b + 1)) 0 rfl hu_12 (by decide) cw_0 rfl fl_X11_10 rfl dX11_owed_68 ?_
                refine hv_aload C 6 0 dX11_owed_71 rfl ?_
                refine hv_iload_n C 1 2 dX11_owed_73 rfl rfl ?_
                refine zt_callV [.ref p2, .int (iz ((sn : Nat) : Int))] [] C K (cw_at 1 rfl) rfl (k_X8_isSoldTo l A h p2 (sA τ 18 X) sn hA (by repeat (first | exact hR | refine rl_sA (by decide) ?_)) o2 (by omega)) ck_X11_251 (by decide) ⟨Nat.zero_le _, Nat.zero_le _⟩ rfl (Nat.le_of_ble_eq_true rfl) dX11_owed_74 ?_
                refine hv_as (xb (decide ((A 9 = -1 ∨ A (280 + 8 * h + 7) ≤ A 9) ∧ A (280 + 8 * h + 6) / 2 ^ sn % 2 ^ 1 = 1))) rfl ?_
                refine hv_dif_eq C 117 dX11_owed_77 (by decide)  (fun h77 => ?_) (fun h77 => ?_)
                · skip
                  refine hv_iinc C 5 6 [(5, .int (iz (((h : Nat) : Int) + 1))), (6, .ref p2), (0, .ref b), (1, .int (iz ((sn : Nat) : Int))), (2, .int (iz a)), (3, .int (iz b9)), (4, .int (iz sm))] dX11_owed_117 rfl (by decide) rfl ?_
                  refine hv_goto C 35 dX11_owed_120 (by decide) ?_
                  refine hv_loc [2, 3, 4, 5, 6, 0] [(0, .ref b), (1, .int (iz ((sn : Nat) : Int))), (2, .int (iz a)), (3, .int (iz b9)), (4, .int (iz sm)), (5, .int (iz (((h : Nat) : Int) + 1)))] rfl ?_
                  exact ih35 sm (h + 1) X (by omega) (by omega) (by have zso := ss_od A sn h (A (280 + 8 * h + 3)).toNat; rw [hsm, od]; first | (rw [if_pos ⟨h77.1, by omega, by omega⟩]; omega) | (rw [if_neg (fun z9 => by have z8 := z9.2.1; omega)]; omega) | (rw [if_neg (fun z5 => h77 ⟨z5.1, by have z4 := z5.2.2; omega⟩)]; omega))
                · skip
                  refine hv_aload C 6 0 dX11_owed_80 rfl ?_
                  refine zc_get C K (v := .int (iz ((48 * (A (280 + 8 * h + 1))) + (A (280 + 8 * h + 2))))) 1 rfl hu_4 (by decide) (cw_ob o2) rfl fl_X11_153 rfl dX11_owed_82 ?_
                  refine hv_bipush C dX11_owed_85 (by decide) ?_
                  refine hv_idiv C (by omega) (by omega) (by omega) (by omega) dX11_owed_87 ?_
                  refine hv_iload_n C 2 3 dX11_owed_88 rfl rfl ?_
                  refine hv_iload_n C 3 4 dX11_owed_89 rfl rfl ?_
                  refine zt_callS [.int (iz (((48 * (A (280 + 8 * h + 1))) + (A (280 + 8 * h + 2))) / 48)), .int (iz a), .int (iz b9)] [] C K (k_X11_within l  (sA τ 18 X) (((48 * (A (280 + 8 * h + 1))) + (A (280 + 8 * h + 2))) / 48) a b9 (by omega) (by omega) (by omega)) ck_X11_62 (by decide) ⟨Nat.zero_le _, Nat.zero_le _⟩ rfl (Nat.le_of_ble_eq_true rfl) dX11_owed_90 ?_
                  refine hv_as (xb (decide (a ≤ (((48 * (A (280 + 8 * h + 1))) + (A (280 + 8 * h + 2))) / 48) ∧ (((48 * (A (280 + 8 * h + 1))) + (A (280 + 8 * h + 2))) / 48) ≤ b9))) rfl ?_
                  refine hv_dif_eq C 117 dX11_owed_93 (by decide)  (fun h93 => ?_) (fun h93 => ?_)
                  · skip
                    refine hv_iinc C 5 6 [(5, .int (iz (((h : Nat) : Int) + 1))), (6, .ref p2), (0, .ref b), (1, .int (iz ((sn : Nat) : Int))), (2, .int (iz a)), (3, .int (iz b9)), (4, .int (iz sm))] dX11_owed_117 rfl (by decide) rfl ?_
                    refine hv_goto C 35 dX11_owed_120 (by decide) ?_
                    refine hv_loc [2, 3, 4, 5, 6, 0] [(0, .ref b), (1, .int (iz ((sn : Nat) : Int))), (2, .int (iz a)), (3, .int (iz b9)), (4, .int (iz sm)), (5, .int (iz (((h : Nat) : Int) + 1)))] rfl ?_
                    exact ih35 sm (h + 1) X (by omega) (by omega) (by have zso := ss_od A sn h (A (280 + 8 * h + 3)).toNat; rw [hsm, od]; first | (rw [if_pos ⟨h77.1, by omega, by omega⟩]; omega) | (rw [if_neg (fun z9 => by have z8 := z9.2.1; omega)]; omega) | (rw [if_neg (fun z5 => h77 ⟨z5.1, by have z4 := z5.2.2; omega⟩)]; omega))
                  · skip
                    refine hv_iload C 4 5 dX11_owed_96 rfl ?_
                    refine hv_aload C 6 0 dX11_owed_98 rfl ?_
                    refine zc_get C K (v := .int (iz (A (280 + 8 * h + 3)))) 2 rfl hu_4 (by decide) (cw_ob o2) rfl fl_X11_156 rfl dX11_owed_100 ?_
                    refine hv_nm (fun x3 ex3 => ?_)
                    have rx3 : inI x3 := by rw [ex3]; exact (hA _)
                    refine hv_aload_n C 0 1 dX11_owed_103 rfl rfl ?_
                    refine zc_get C K (v := .ref (b + 1)) 0 rfl hu_12 (by decide) cw_0 rfl fl_X11_10 rfl dX11_owed_104 ?_
                    refine hv_iload_n C 1 2 dX11_owed_107 rfl rfl ?_
                    refine hv_iload C 5 6 dX11_owed_108 rfl ?_
                    refine zx_callV [.int (iz ((sn : Nat) : Int)), .int (iz ((h : Nat) : Int))] [.int (iz x3), .int (iz sm)] C K (cw_at 1 rfl) rfl (k_X8_slotsSent l A (sA τ 18 X) sn h hA (by repeat (first | exact hR | refine rl_sA (by decide) ?_)) hs hh hl hlj hc hm hb (by omega) (by omega)) ck_X11_258 (by decide) ⟨Nat.zero_le _, Nat.zero_le _⟩ rfl (Nat.le_of_ble_eq_true rfl) dX11_owed_110 (fun X4 => ?_)
                    refine hv_as ((ss9 A sn h (A (280 + 8 * h + 3)).toNat)) rfl ?_
                    refine zt_st (τ2 := sA τ 18 X4) (by rw [sA_sA]) ?_
                    refine hv_isub C dX11_owed_113 ?_
                    refine hv_iadd C dX11_owed_114 ?_
                    refine hv_istore C 4 [(4, .int (iz (sm + (x3 - (ss9 A sn h (A (280 + 8 * h + 3)).toNat))))), (6, .ref p2), (0, .ref b), (1, .int (iz ((sn : Nat) : Int))), (2, .int (iz a)), (3, .int (iz b9)), (5, .int (iz ((h : Nat) : Int)))] dX11_owed_115 (by decide) rfl ?_
                    refine hv_iinc C 5 6 [(5, .int (iz (((h : Nat) : Int) + 1))), (4, .int (iz (sm + (x3 - (ss9 A sn h (A (280 + 8 * h + 3)).toNat))))), (6, .ref p2), (0, .ref b), (1, .int (iz ((sn : Nat) : Int))), (2, .int (iz a)), (3, .int (iz b9))] dX11_owed_117 rfl (by decide) rfl ?_
                    refine hv_goto C 35 dX11_owed_120 (by decide) ?_
                    refine hv_loc [3, 4, 5, 6, 1, 0] [(0, .ref b), (1, .int (iz ((sn : Nat) : Int))), (2, .int (iz a)), (3, .int (iz b9)), (4, .int (iz (sm + (x3 - (ss9 A sn h (A (280 + 8 * h + 3)).toNat))))), (5, .int (iz (((h : Nat) : Int) + 1)))] rfl ?_
                    exact ih35 (sm + (x3 - (ss9 A sn h (A (280 + 8 * h + 3)).toNat))) (h + 1) X4 (by omega) (by omega) (by have zso := ss_od A sn h (A (280 + 8 * h + 3)).toNat; rw [hsm, od]; first | (rw [if_pos ⟨h77.1, by omega, by omega⟩]; omega) | (rw [if_neg (fun z9 => by have z8 := z9.2.1; omega)]; omega) | (rw [if_neg (fun z5 => h77 ⟨z5.1, by have z4 := z5.2.2; omega⟩)]; omega))
          refine hv_loc [2, 3, 4, 5, 1, 0] [(0, .ref b), (1, .int (iz ((sn : Nat) : Int))), (2, .int (iz a)), (3, .int (iz b9)), (4, .int (iz 0)), (5, .int (iz 0))] rfl ?_
          refine zt_st (τ2 := sA τ 18 (τ 18)) ((sA_id τ 18).symm) ?_
          exact L35 _ 0 0 (τ 18) (Nat.lt_succ_self _) (by omega) rfl
        · skip
          refine hv_iconst C dX11_owed_27 ?_
          exact zx_iret C hr hlk (by (try simp only [Int.toNat_natCast] at *); first | exact if_n (by omega) rfl | (refine if_p (by omega) ?_; rw [hsm, show (A 4).toNat = h by omega])) ⟨τ 18, (sA_id τ 18).symm⟩ dX11_owed_28
theorem dX11_lost_0 : decode cX11_lost 0 = .ok (.aload_n 0, 1) := by decide +kernel
theorem dX11_lost_1 : decode cX11_lost 1 = .ok (.iload_n 1, 1) := by decide +kernel
theorem dX11_lost_2 : decode cX11_lost 2 = .ok (.invokevirtual 112, 3) := by decide +kernel
theorem dX11_lost_5 : decode cX11_lost 5 = .ok (.ifCond .eq 7, 3) := by decide +kernel
theorem dX11_lost_8 : decode cX11_lost 8 = .ok (.iload_n 2, 1) := by decide +kernel
theorem dX11_lost_9 : decode cX11_lost 9 = .ok (.ifCond .ge 5, 3) := by decide +kernel
theorem dX11_lost_12 : decode cX11_lost 12 = .ok (.iconst (-1), 1) := by decide +kernel
theorem dX11_lost_13 : decode cX11_lost 13 = .ok (.ireturn, 1) := by decide +kernel
theorem dX11_lost_14 : decode cX11_lost 14 = .ok (.iload_n 2, 1) := by decide +kernel
theorem dX11_lost_15 : decode cX11_lost 15 = .ok (.istore_n 3, 1) := by decide +kernel
theorem dX11_lost_16 : decode cX11_lost 16 = .ok (.iconst 0, 1) := by decide +kernel
theorem dX11_lost_17 : decode cX11_lost 17 = .ok (.istore 4, 2) := by decide +kernel
theorem dX11_lost_19 : decode cX11_lost 19 = .ok (.iload 4, 2) := by decide +kernel
theorem dX11_lost_21 : decode cX11_lost 21 = .ok (.aload_n 0, 1) := by decide +kernel
theorem dX11_lost_22 : decode cX11_lost 22 = .ok (.getfield 10, 3) := by decide +kernel
theorem dX11_lost_25 : decode cX11_lost 25 = .ok (.getfield 124, 3) := by decide +kernel
theorem dX11_lost_28 : decode cX11_lost 28 = .ok (.invokevirtual 52, 3) := by decide +kernel
theorem dX11_lost_31 : decode cX11_lost 31 = .ok (.if_icmp .ge 73, 3) := by decide +kernel
theorem dX11_lost_34 : decode cX11_lost 34 = .ok (.aload_n 0, 1) := by decide +kernel
theorem dX11_lost_35 : decode cX11_lost 35 = .ok (.getfield 10, 3) := by decide +kernel
theorem dX11_lost_38 : decode cX11_lost 38 = .ok (.getfield 124, 3) := by decide +kernel
theorem dX11_lost_41 : decode cX11_lost 41 = .ok (.iload 4, 2) := by decide +kernel
theorem dX11_lost_43 : decode cX11_lost 43 = .ok (.invokevirtual 146, 3) := by decide +kernel
theorem dX11_lost_46 : decode cX11_lost 46 = .ok (.checkcast 130, 3) := by decide +kernel
theorem dX11_lost_49 : decode cX11_lost 49 = .ok (.astore 5, 2) := by decide +kernel
theorem dX11_lost_51 : decode cX11_lost 51 = .ok (.aload_n 0, 1) := by decide +kernel
theorem dX11_lost_52 : decode cX11_lost 52 = .ok (.getfield 10, 3) := by decide +kernel
theorem dX11_lost_55 : decode cX11_lost 55 = .ok (.aload 5, 2) := by decide +kernel
theorem dX11_lost_57 : decode cX11_lost 57 = .ok (.iload_n 1, 1) := by decide +kernel
theorem dX11_lost_58 : decode cX11_lost 58 = .ok (.invokevirtual 251, 3) := by decide +kernel
theorem dX11_lost_61 : decode cX11_lost 61 = .ok (.ifCond .eq 37, 3) := by decide +kernel
theorem dX11_lost_64 : decode cX11_lost 64 = .ok (.aload_n 0, 1) := by decide +kernel
theorem dX11_lost_65 : decode cX11_lost 65 = .ok (.getfield 10, 3) := by decide +kernel
theorem dX11_lost_68 : decode cX11_lost 68 = .ok (.iload_n 1, 1) := by decide +kernel
theorem dX11_lost_69 : decode cX11_lost 69 = .ok (.aload 5, 2) := by decide +kernel
theorem dX11_lost_71 : decode cX11_lost 71 = .ok (.getfield 153, 3) := by decide +kernel
theorem dX11_lost_74 : decode cX11_lost 74 = .ok (.bipush 48, 2) := by decide +kernel
theorem dX11_lost_76 : decode cX11_lost 76 = .ok (.idiv, 1) := by decide +kernel
theorem dX11_lost_77 : decode cX11_lost 77 = .ok (.invokevirtual 121, 3) := by decide +kernel
theorem dX11_lost_80 : decode cX11_lost 80 = .ok (.aload 5, 2) := by decide +kernel
theorem dX11_lost_82 : decode cX11_lost 82 = .ok (.getfield 150, 3) := by decide +kernel
theorem dX11_lost_85 : decode cX11_lost 85 = .ok (.if_icmp .eq 13, 3) := by decide +kernel
theorem dX11_lost_88 : decode cX11_lost 88 = .ok (.iload_n 3, 1) := by decide +kernel
theorem dX11_lost_89 : decode cX11_lost 89 = .ok (.ifCond .ne 6, 3) := by decide +kernel
theorem dX11_lost_92 : decode cX11_lost 92 = .ok (.iload 4, 2) := by decide +kernel
theorem dX11_lost_94 : decode cX11_lost 94 = .ok (.ireturn, 1) := by decide +kernel
theorem dX11_lost_95 : decode cX11_lost 95 = .ok (.iinc 3 (-1), 3) := by decide +kernel
theorem dX11_lost_98 : decode cX11_lost 98 = .ok (.iinc 4 1, 3) := by decide +kernel
theorem dX11_lost_101 : decode cX11_lost 101 = .ok (.goto (-82), 3) := by decide +kernel
theorem dX11_lost_104 : decode cX11_lost 104 = .ok (.iconst (-1), 1) := by decide +kernel
theorem dX11_lost_105 : decode cX11_lost 105 = .ok (.ireturn, 1) := by decide +kernel
set_option maxRecDepth 100000 in
set_option maxHeartbeats 4000000 in
theorem k_X11_lost (l : Launch) {D : va_G} {ar : Nat → ClassId} {B : Nat → Prop} {b n : Nat} {w0 : zcW} (A : Nat → Int) (τ : Nat → Nat → Int) (st : Int) (k : Int) (hA : ∀ i, inI (A i)) (hR : Rel9 ar b w0 A τ) (hs : si A) (hh : hi A) (hl : li A) (hlj : lj9 A) (hc : cn A) (hm : mI A) (hb : bI A) (r_st : inI st) (r_k : inI k) : zt_M l D ar B b w0 n yX11_lost cX11_lost 6 (some .int) 4 90 [.ref b, .int (iz st), .int (iz k)] τ (some (.int (iz (if 0 ≤ st ∧ st ≤ A 2 - 1 then lst A st.toNat k (A 4).toNat 0 0 else -1)))) (τ) := by
  refine zc_start (own := RX11) (by decide +kernel) rfl (Nat.le_of_ble_eq_true rfl) ?_
  intro p e s m args below meth c C K hr hlk hnam
  have n7 := hR.l7.1
  refine hv_aload_n C 0 0 dX11_lost_0 rfl rfl ?_
  refine hv_iload_n C 1 1 dX11_lost_1 rfl rfl ?_
  refine zt_callV [.int (iz st)] [] C K cw_0 rfl (k_X11_isStation l A τ st hA hR (by omega) hc) ck_X11_112 (by decide) ⟨Nat.zero_le _, Nat.zero_le _⟩ rfl (Nat.le_of_ble_eq_true rfl) dX11_lost_2 ?_
  refine hv_as (xb (decide (0 ≤ st ∧ st ≤ A 2 - 1))) rfl ?_
  refine hv_dif_eq C 12 dX11_lost_5 (by decide)  (fun h5 => ?_) (fun h5 => ?_)
  · skip
    refine hv_iconst C dX11_lost_12 ?_
    exact zt_iret C hr hlk (by (try simp only [Int.toNat_natCast] at *); first | exact if_n (by omega) rfl | (refine if_p (by omega) ?_; first | exact zv.symm | (rw [← hr9, show (A 4).toNat - h = 0 by omega]; rfl) | exact (lst_m A _ (by omega) _ _ _ (by omega)).symm)) rfl dX11_lost_13
  · skip
    refine hv_iload_n C 2 2 dX11_lost_8 rfl rfl ?_
    refine hv_if_ge C 14 dX11_lost_9 (by decide) (by omega) (fun h9 => ?_) (fun h9 => ?_)
    · skip
      obtain ⟨sn, rfl⟩ : ∃ n9 : Nat, st = (n9 : Int) := ⟨(st).toNat, by omega⟩
      (try simp only [Int.toNat_natCast] at *)
      refine hv_iload_n C 2 2 dX11_lost_14 rfl rfl ?_
      refine hv_istore_n C 3 [(3, .int (iz k)), (0, .ref b), (1, .int (iz ((sn : Nat) : Int))), (2, .int (iz k))] dX11_lost_15 rfl (by decide) rfl ?_
      refine hv_iconst C dX11_lost_16 ?_
      refine hv_istore C 4 [(4, .int (iz 0)), (3, .int (iz k)), (0, .ref b), (1, .int (iz ((sn : Nat) : Int))), (2, .int (iz k))] dX11_lost_17 (by decide) rfl ?_
      have L19 : ∀ (f : Nat) (ah : Int) (h : Nat), (A 4).toNat - h < f → ((h : Int) ≤ A 4) → (0 ≤ ah ∧ ah ≤ k) → (lst A sn k ((A 4).toNat - h) h (k - ah) = lst A sn k (A 4).toNat 0 0) → hvV p l e { frames := 4, cells := 0, slots := 0, locals := 90 } s m args below meth c 6 B 0 0 (MQ below (zc_Q D B (fun r' w' n' => r' = (some (.int (iz (if 0 ≤ ((sn : Nat) : Int) ∧ ((sn : Nat) : Int) ≤ A 2 - 1 then lst A ((sn : Nat) : Int).toNat k (A 4).toNat 0 0 else -1)))) ∧ w' = cw ar b (τ) w0 ∧ n' = n)) args s 0 0 B) (zc_I D B (cw ar b τ w0) n s.heap) 19 [(0, .ref b), (1, .int (iz ((sn : Nat) : Int))), (2, .int (iz k)), (3, .int (iz ah)), (4, .int (iz ((h : Nat) : Int)))] [] := by
        intro f
        induction f with
        | zero => intro _ _ hm; exact absurd hm (Nat.not_lt_zero _)
        | succ f ih19 =>
          intro ah h hm19 hh9 hah hr9
          refine hv_iload C 4 4 dX11_lost_19 rfl ?_
          refine hv_aload_n C 0 0 dX11_lost_21 rfl rfl ?_
          refine zc_get C K (v := .ref (b + 1)) 0 rfl hu_12 (by decide) cw_0 rfl fl_X11_10 rfl dX11_lost_22 ?_
          refine zc_get C K (v := .ref (b + 7)) 6 rfl hu_9 (by decide) (cw_at 1 rfl) rfl fl_X11_124 rfl dX11_lost_25 ?_
          refine zt_callV [] [.int (iz ((h : Nat) : Int))] C K (cw_at 7 rfl) rfl (k_Jx4a65c_size_8abf5 l 7 τ  rfl) ck_X11_52 (by decide) ⟨Nat.zero_le _, Nat.zero_le _⟩ rfl (Nat.le_of_ble_eq_true rfl) dX11_lost_28 ?_
          refine hv_as ((τ 7 2)) rfl ?_
          refine hv_nm (fun x1 ex1 => ?_)
          have rx1 : inI x1 := by rw [ex1]; exact (by have z := hA 4; omega)
          refine hv_icmp_ge C 104 dX11_lost_31 (by decide) (by omega) (by omega) (fun h31 => ?_) (fun h31 => ?_)
          · skip
            refine hv_iconst C dX11_lost_104 ?_
            exact zt_iret C hr hlk (by (try simp only [Int.toNat_natCast] at *); first | exact if_n (by omega) rfl | (refine if_p (by omega) ?_; first | exact zv.symm | (rw [← hr9, show (A 4).toNat - h = 0 by omega]; rfl) | exact (lst_m A _ (by omega) _ _ _ (by omega)).symm)) rfl dX11_lost_105
          · skip
            refine hv_aload_n C 0 0 dX11_lost_34 rfl rfl ?_
            refine zc_get C K (v := .ref (b + 1)) 0 rfl hu_12 (by decide) cw_0 rfl fl_X11_10 rfl dX11_lost_35 ?_
            refine zc_get C K (v := .ref (b + 7)) 6 rfl hu_9 (by decide) (cw_at 1 rfl) rfl fl_X11_124 rfl dX11_lost_38 ?_
            refine hv_iload C 4 4 dX11_lost_41 rfl ?_
            obtain ⟨p2, i2, o2⟩ := (hR : Rel9 ar b w0 A τ).l7.2 h (by omega)
            refine zt_callV [.int (iz ((h : Nat) : Int))] [] C K (cw_at 7 rfl) rfl (k_Jx4a65c_get_915e3 l 7 p2 τ h rfl i2) ck_X11_146 (by decide) ⟨Nat.zero_le _, Nat.zero_le _⟩ rfl (Nat.le_of_ble_eq_true rfl) dX11_lost_43 ?_
            refine zc_cast C K (cw_ob o2) (hc := rfl) cl_X11_130 dX11_lost_46 ?_
            refine hv_astore C 5 [(5, .ref p2), (0, .ref b), (1, .int (iz ((sn : Nat) : Int))), (2, .int (iz k)), (3, .int (iz ah)), (4, .int (iz ((h : Nat) : Int)))] dX11_lost_49 (by decide) rfl ?_
            have hhk := hh h (by omega)
            refine hv_aload_n C 0 1 dX11_lost_51 rfl rfl ?_
            refine zc_get C K (v := .ref (b + 1)) 0 rfl hu_12 (by decide) cw_0 rfl fl_X11_10 rfl dX11_lost_52 ?_
            refine hv_aload C 5 0 dX11_lost_55 rfl ?_
            refine hv_iload_n C 1 2 dX11_lost_57 rfl rfl ?_
            refine zt_callV [.ref p2, .int (iz ((sn : Nat) : Int))] [] C K (cw_at 1 rfl) rfl (k_X8_isSoldTo l A h p2 τ sn hA hR o2 (by omega)) ck_X11_251 (by decide) ⟨Nat.zero_le _, Nat.zero_le _⟩ rfl (Nat.le_of_ble_eq_true rfl) dX11_lost_58 ?_
            refine hv_as (xb (decide ((A 9 = -1 ∨ A (280 + 8 * h + 7) ≤ A 9) ∧ A (280 + 8 * h + 6) / 2 ^ sn % 2 ^ 1 = 1))) rfl ?_
            refine hv_dif_eq C 98 dX11_lost_61 (by decide)  (fun h61 => ?_) (fun h61 => ?_)
            · skip
              try have zmm : member A (sn : Int) (A (280 + 8 * h + 1)) = A (280 + 8 * h + 0) := by rw [← zmq]; omega
              refine hv_iinc C 4 5 [(4, .int (iz (((h : Nat) : Int) + 1))), (5, .ref p2), (0, .ref b), (1, .int (iz ((sn : Nat) : Int))), (2, .int (iz k)), (3, .int (iz ah))] dX11_lost_98 rfl (by decide) rfl ?_
              refine hv_goto C 19 dX11_lost_101 (by decide) ?_
              refine hv_loc [2, 3, 4, 5, 0] [(0, .ref b), (1, .int (iz ((sn : Nat) : Int))), (2, .int (iz k)), (3, .int (iz ah)), (4, .int (iz (((h : Nat) : Int) + 1)))] rfl ?_
              exact ih19 ah (h + 1) (by omega) (by omega) (by omega) (by rw [← hr9, lst_s (A := A) (s := sn) (h := h) (f := (A 4).toNat - h) (k := k) (n := k - ah) (by omega)]; first | (rw [if_neg (fun z5 => h61 ⟨z5.1, by have z4 := z5.2.1; omega⟩)]; rfl) | (rw [if_neg (fun z5 => z5.2.2 zmm)]; rfl) | (rw [if_pos ⟨h61.1, by have z3 := h61.2; omega, zmm⟩, if_neg (by omega), show k - ah + 1 = k - (ah + -1) by omega]; rfl))
            · skip
              refine hv_aload_n C 0 1 dX11_lost_64 rfl rfl ?_
              refine zc_get C K (v := .ref (b + 1)) 0 rfl hu_12 (by decide) cw_0 rfl fl_X11_10 rfl dX11_lost_65 ?_
              refine hv_iload_n C 1 2 dX11_lost_68 rfl rfl ?_
              refine hv_aload C 5 0 dX11_lost_69 rfl ?_
              refine zc_get C K (v := .int (iz ((48 * (A (280 + 8 * h + 1))) + (A (280 + 8 * h + 2))))) 1 rfl hu_4 (by decide) (cw_ob o2) rfl fl_X11_153 rfl dX11_lost_71 ?_
              refine hv_bipush C dX11_lost_74 (by decide) ?_
              refine hv_idiv C (by omega) (by omega) (by omega) (by omega) dX11_lost_76 ?_
              refine zt_callV [.int (iz ((sn : Nat) : Int)), .int (iz (((48 * (A (280 + 8 * h + 1))) + (A (280 + 8 * h + 2))) / 48))] [] C K (cw_at 1 rfl) rfl (k_X8_networkOn l A τ ((sn : Nat) : Int) (((48 * (A (280 + 8 * h + 1))) + (A (280 + 8 * h + 2))) / 48) hA hR hm hc (by omega) (by omega)) ck_X11_121 (by decide) ⟨Nat.zero_le _, Nat.zero_le _⟩ rfl (Nat.le_of_ble_eq_true rfl) dX11_lost_77 ?_
              refine hv_as ((member A ((sn : Nat) : Int) (((48 * (A (280 + 8 * h + 1))) + (A (280 + 8 * h + 2))) / 48))) rfl ?_
              refine hv_nm (fun x3 ex3 => ?_)
              have rx3 : inI x3 := by rw [ex3]; exact (by have z := member_rng hm hc (sn : Int) ((48 * A (280 + 8 * h + 1) + A (280 + 8 * h + 2)) / 48); exact ⟨by omega, by omega⟩)
              have zmq : x3 = member A (sn : Int) (A (280 + 8 * h + 1)) := by rw [ex3, show (48 * A (280 + 8 * h + 1) + A (280 + 8 * h + 2)) / 48 = A (280 + 8 * h + 1) by omega]
              refine hv_aload C 5 0 dX11_lost_80 rfl ?_
              refine zc_get C K (v := .int (iz (A (280 + 8 * h + 0)))) 0 rfl hu_4 (by decide) (cw_ob o2) rfl fl_X11_150 rfl dX11_lost_82 ?_
              refine hv_nm (fun x4 ex4 => ?_)
              have rx4 : inI x4 := by rw [ex4]; exact (hA _)
              refine hv_icmp_eq C 98 dX11_lost_85 (by decide) (by omega) (by omega) (fun h85 => ?_) (fun h85 => ?_)
              · skip
                try have zmm : member A (sn : Int) (A (280 + 8 * h + 1)) = A (280 + 8 * h + 0) := by rw [← zmq]; omega
                refine hv_iinc C 4 5 [(4, .int (iz (((h : Nat) : Int) + 1))), (5, .ref p2), (0, .ref b), (1, .int (iz ((sn : Nat) : Int))), (2, .int (iz k)), (3, .int (iz ah))] dX11_lost_98 rfl (by decide) rfl ?_
                refine hv_goto C 19 dX11_lost_101 (by decide) ?_
                refine hv_loc [2, 3, 4, 5, 0] [(0, .ref b), (1, .int (iz ((sn : Nat) : Int))), (2, .int (iz k)), (3, .int (iz ah)), (4, .int (iz (((h : Nat) : Int) + 1)))] rfl ?_
                exact ih19 ah (h + 1) (by omega) (by omega) (by omega) (by rw [← hr9, lst_s (A := A) (s := sn) (h := h) (f := (A 4).toNat - h) (k := k) (n := k - ah) (by omega)]; first | (rw [if_neg (fun z5 => h61 ⟨z5.1, by have z4 := z5.2.1; omega⟩)]; rfl) | (rw [if_neg (fun z5 => z5.2.2 zmm)]; rfl) | (rw [if_pos ⟨h61.1, by have z3 := h61.2; omega, zmm⟩, if_neg (by omega), show k - ah + 1 = k - (ah + -1) by omega]; rfl))
              · skip
                have zmm : ¬ member A (sn : Int) (A (280 + 8 * h + 1)) = A (280 + 8 * h + 0) := by rw [← zmq]; omega
                refine hv_iload_n C 3 4 dX11_lost_88 rfl rfl ?_
                refine hv_if_ne C 95 dX11_lost_89 (by decide) (by omega) (fun h89 => ?_) (fun h89 => ?_)
                · skip
                  refine hv_iinc C 3 4 [(3, .int (iz (ah + (-1)))), (5, .ref p2), (0, .ref b), (1, .int (iz ((sn : Nat) : Int))), (2, .int (iz k)), (4, .int (iz ((h : Nat) : Int)))] dX11_lost_95 rfl (by decide) rfl ?_
                  try have zmm : member A (sn : Int) (A (280 + 8 * h + 1)) = A (280 + 8 * h + 0) := by rw [← zmq]; omega
                  refine hv_iinc C 4 5 [(4, .int (iz (((h : Nat) : Int) + 1))), (3, .int (iz (ah + (-1)))), (5, .ref p2), (0, .ref b), (1, .int (iz ((sn : Nat) : Int))), (2, .int (iz k))] dX11_lost_98 rfl (by decide) rfl ?_
                  refine hv_goto C 19 dX11_lost_101 (by decide) ?_
                  refine hv_loc [3, 4, 5, 1, 0] [(0, .ref b), (1, .int (iz ((sn : Nat) : Int))), (2, .int (iz k)), (3, .int (iz (ah + (-1)))), (4, .int (iz (((h : Nat) : Int) + 1)))] rfl ?_
                  exact ih19 (ah + (-1)) (h + 1) (by omega) (by omega) (by omega) (by rw [← hr9, lst_s (A := A) (s := sn) (h := h) (f := (A 4).toNat - h) (k := k) (n := k - ah) (by omega)]; first | (rw [if_neg (fun z5 => h61 ⟨z5.1, by have z4 := z5.2.1; omega⟩)]; rfl) | (rw [if_neg (fun z5 => z5.2.2 zmm)]; rfl) | (rw [if_pos ⟨h61.1, by have z3 := h61.2; omega, zmm⟩, if_neg (by omega), show k - ah + 1 = k - (ah + -1) by omega]; rfl))
                · skip
                  have zv : lst A sn k (A 4).toNat 0 0 = (h : Int) := by rw [← hr9, lst_s (by omega), if_pos ⟨h61.1, by have z3 := h61.2; omega, zmm⟩, if_pos (by omega)]
                  refine hv_iload C 4 5 dX11_lost_92 rfl ?_
                  exact zt_iret C hr hlk (by (try simp only [Int.toNat_natCast] at *); first | exact if_n (by omega) rfl | (refine if_p (by omega) ?_; first | exact zv.symm | (rw [← hr9, show (A 4).toNat - h = 0 by omega]; rfl) | exact (lst_m A _ (by omega) _ _ _ (by omega)).symm)) rfl dX11_lost_94
      refine hv_loc [2, 3, 4, 1, 0] [(0, .ref b), (1, .int (iz ((sn : Nat) : Int))), (2, .int (iz k)), (3, .int (iz k)), (4, .int (iz 0))] rfl ?_
      exact L19 _ k 0 (Nat.lt_succ_self _) (by omega) (by omega) (by rw [show k - k = 0 by omega]; rfl)
    · skip
      refine hv_iconst C dX11_lost_12 ?_
      exact zt_iret C hr hlk (by (try simp only [Int.toNat_natCast] at *); first | exact if_n (by omega) rfl | (refine if_p (by omega) ?_; first | exact zv.symm | (rw [← hr9, show (A 4).toNat - h = 0 by omega]; rfl) | exact (lst_m A _ (by omega) _ _ _ (by omega)).symm)) rfl dX11_lost_13
theorem dX11_shareOf_0 : decode cX11_shareOf 0 = .ok (.aload_n 0, 1) := by decide +kernel
theorem dX11_shareOf_1 : decode cX11_shareOf 1 = .ok (.getfield 10, 3) := by decide +kernel
theorem dX11_shareOf_4 : decode cX11_shareOf 4 = .ok (.getfield 264, 3) := by decide +kernel
theorem dX11_shareOf_7 : decode cX11_shareOf 7 = .ok (.iconst 3, 1) := by decide +kernel
theorem dX11_shareOf_8 : decode cX11_shareOf 8 = .ok (.iload_n 1, 1) := by decide +kernel
theorem dX11_shareOf_9 : decode cX11_shareOf 9 = .ok (.imul, 1) := by decide +kernel
theorem dX11_shareOf_10 : decode cX11_shareOf 10 = .ok (.iconst 1, 1) := by decide +kernel
theorem dX11_shareOf_11 : decode cX11_shareOf 11 = .ok (.iadd, 1) := by decide +kernel
theorem dX11_shareOf_12 : decode cX11_shareOf 12 = .ok (.iaload, 1) := by decide +kernel
theorem dX11_shareOf_13 : decode cX11_shareOf 13 = .ok (.istore_n 2, 1) := by decide +kernel
theorem dX11_shareOf_14 : decode cX11_shareOf 14 = .ok (.aload_n 0, 1) := by decide +kernel
theorem dX11_shareOf_15 : decode cX11_shareOf 15 = .ok (.getfield 10, 3) := by decide +kernel
theorem dX11_shareOf_18 : decode cX11_shareOf 18 = .ok (.getfield 264, 3) := by decide +kernel
theorem dX11_shareOf_21 : decode cX11_shareOf 21 = .ok (.iconst 3, 1) := by decide +kernel
theorem dX11_shareOf_22 : decode cX11_shareOf 22 = .ok (.iload_n 1, 1) := by decide +kernel
theorem dX11_shareOf_23 : decode cX11_shareOf 23 = .ok (.imul, 1) := by decide +kernel
theorem dX11_shareOf_24 : decode cX11_shareOf 24 = .ok (.iconst 2, 1) := by decide +kernel
theorem dX11_shareOf_25 : decode cX11_shareOf 25 = .ok (.iadd, 1) := by decide +kernel
theorem dX11_shareOf_26 : decode cX11_shareOf 26 = .ok (.iaload, 1) := by decide +kernel
theorem dX11_shareOf_27 : decode cX11_shareOf 27 = .ok (.istore_n 3, 1) := by decide +kernel
theorem dX11_shareOf_28 : decode cX11_shareOf 28 = .ok (.iload_n 2, 1) := by decide +kernel
theorem dX11_shareOf_29 : decode cX11_shareOf 29 = .ok (.ifCond .le 13, 3) := by decide +kernel
theorem dX11_shareOf_32 : decode cX11_shareOf 32 = .ok (.sipush 1000, 3) := by decide +kernel
theorem dX11_shareOf_35 : decode cX11_shareOf 35 = .ok (.iload_n 3, 1) := by decide +kernel
theorem dX11_shareOf_36 : decode cX11_shareOf 36 = .ok (.imul, 1) := by decide +kernel
theorem dX11_shareOf_37 : decode cX11_shareOf 37 = .ok (.iload_n 2, 1) := by decide +kernel
theorem dX11_shareOf_38 : decode cX11_shareOf 38 = .ok (.idiv, 1) := by decide +kernel
theorem dX11_shareOf_39 : decode cX11_shareOf 39 = .ok (.goto 4, 3) := by decide +kernel
theorem dX11_shareOf_42 : decode cX11_shareOf 42 = .ok (.iconst 0, 1) := by decide +kernel
theorem dX11_shareOf_43 : decode cX11_shareOf 43 = .ok (.ireturn, 1) := by decide +kernel
theorem fl_X11_264 : Cond.fieldLink RX11 264 "HookUps$Told" (TX8 17).2.1 (TX8 17).2.2.1 ∈ hk_tb := hk_tq1 162 (by decide +kernel) (by decide +kernel)
set_option maxRecDepth 100000 in
set_option maxHeartbeats 4000000 in
theorem k_X11_shareOf (l : Launch) {D : va_G} {ar : Nat → ClassId} {B : Nat → Prop} {b n : Nat} {w0 : zcW} (A : Nat → Int) (τ : Nat → Nat → Int) (k : Nat) (hA : ∀ i, inI (A i)) (hR : Rel9 ar b w0 A τ) (hci : ci A) (hx : (k : Int) < A 6) (hc : cn A) : zt_M l D ar B b w0 n yX11_shareOf cX11_shareOf 4 (some .int) 0 0 [.ref b, .int (iz ((k : Nat) : Int))] τ (some (.int (iz (1000 * A (630 + 3 * k + 2) / A (630 + 3 * k + 1))))) (τ) := by
  refine zc_start (own := RX11) (by decide +kernel) rfl (Nat.le_of_ble_eq_true rfl) ?_
  intro p e s m args below meth c C K hr hlk hnam
  have hck := hci k hx
  have z1 := hR.calls k 1 hx (by decide)
  have z2 := hR.calls k 2 hx (by decide)
  refine hv_aload_n C 0 0 dX11_shareOf_0 rfl rfl ?_
  refine zc_get C K (v := .ref (b + 1)) 0 rfl hu_12 (by decide) cw_0 rfl fl_X11_10 rfl dX11_shareOf_1 ?_
  refine zc_get C K (v := .ref (b + 11)) 17 rfl hu_9 (by decide) (cw_at 1 rfl) rfl fl_X11_264 rfl dX11_shareOf_4 ?_
  refine hv_iconst C dX11_shareOf_7 ?_
  refine hv_iload_n C 1 1 dX11_shareOf_8 rfl rfl ?_
  refine hv_imul C dX11_shareOf_9 ?_
  refine hv_iconst C dX11_shareOf_10 ?_
  refine hv_iadd C dX11_shareOf_11 ?_
  refine zc_iald C K (f := (τ 11)) ((3 * k) + 1) (cw_at 11 rfl) (by omega) (by omega) (by decide) dX11_shareOf_12 ?_
  refine hv_as (τ 11 ((3 * k) + 1)) rfl ?_
  refine hv_nm (fun x1 ex1 => ?_)
  have rx1 : inI x1 := by rw [ex1]; exact (by rw [z1]; exact hA _)
  refine hv_istore_n C 2 [(2, .int (iz x1)), (0, .ref b), (1, .int (iz ((k : Nat) : Int)))] dX11_shareOf_13 rfl (by decide) rfl ?_
  refine hv_aload_n C 0 1 dX11_shareOf_14 rfl rfl ?_
  refine zc_get C K (v := .ref (b + 1)) 0 rfl hu_12 (by decide) cw_0 rfl fl_X11_10 rfl dX11_shareOf_15 ?_
  refine zc_get C K (v := .ref (b + 11)) 17 rfl hu_9 (by decide) (cw_at 1 rfl) rfl fl_X11_264 rfl dX11_shareOf_18 ?_
  refine hv_iconst C dX11_shareOf_21 ?_
  refine hv_iload_n C 1 2 dX11_shareOf_22 rfl rfl ?_
  refine hv_imul C dX11_shareOf_23 ?_
  refine hv_iconst C dX11_shareOf_24 ?_
  refine hv_iadd C dX11_shareOf_25 ?_
  refine zc_iald C K (f := (τ 11)) ((3 * k) + 2) (cw_at 11 rfl) (by omega) (by omega) (by decide) dX11_shareOf_26 ?_
  refine hv_as (τ 11 ((3 * k) + 2)) rfl ?_
  refine hv_nm (fun x2 ex2 => ?_)
  have rx2 : inI x2 := by rw [ex2]; exact (by rw [z2]; exact hA _)
  refine hv_istore_n C 3 [(3, .int (iz x2)), (2, .int (iz x1)), (0, .ref b), (1, .int (iz ((k : Nat) : Int)))] dX11_shareOf_27 rfl (by decide) rfl ?_
  refine hv_iload_n C 2 1 dX11_shareOf_28 rfl rfl ?_
  refine hv_if_le C 42 dX11_shareOf_29 (by decide) (by omega) (fun h29 => ?_) (fun h29 => ?_)
  · skip
    refine hv_iconst C dX11_shareOf_42 ?_
    exact zt_iret C hr hlk (by first | (exfalso; omega) | (congr 1 <;> omega)) rfl dX11_shareOf_43
  · skip
    refine hv_sipush C dX11_shareOf_32 (by decide) ?_
    refine hv_iload_n C 3 0 dX11_shareOf_35 rfl rfl ?_
    refine hv_imul C dX11_shareOf_36 ?_
    refine hv_iload_n C 2 1 dX11_shareOf_37 rfl rfl ?_
    refine hv_idiv C (by omega) (by omega) (by omega) (by omega) dX11_shareOf_38 ?_
    refine hv_goto C 43 dX11_shareOf_39 (by decide) ?_
    exact zt_iret C hr hlk (by first | (exfalso; omega) | (congr 1 <;> omega)) rfl dX11_shareOf_43
theorem dX11_call_0 : decode cX11_call 0 = .ok (.aload_n 0, 1) := by decide +kernel
theorem dX11_call_1 : decode cX11_call 1 = .ok (.iload_n 1, 1) := by decide +kernel
theorem dX11_call_2 : decode cX11_call 2 = .ok (.invokevirtual 267, 3) := by decide +kernel
theorem dX11_call_5 : decode cX11_call 5 = .ok (.ifCond .ne 5, 3) := by decide +kernel
theorem dX11_call_8 : decode cX11_call 8 = .ok (.iconst (-1), 1) := by decide +kernel
theorem dX11_call_9 : decode cX11_call 9 = .ok (.ireturn, 1) := by decide +kernel
theorem dX11_call_10 : decode cX11_call 10 = .ok (.iload_n 2, 1) := by decide +kernel
theorem dX11_call_11 : decode cX11_call 11 = .ok (.iconst 0, 1) := by decide +kernel
theorem dX11_call_12 : decode cX11_call 12 = .ok (.iconst 2, 1) := by decide +kernel
theorem dX11_call_13 : decode cX11_call 13 = .ok (.invokestatic 62, 3) := by decide +kernel
theorem dX11_call_16 : decode cX11_call 16 = .ok (.ifCond .eq 17, 3) := by decide +kernel
theorem dX11_call_19 : decode cX11_call 19 = .ok (.aload_n 0, 1) := by decide +kernel
theorem dX11_call_20 : decode cX11_call 20 = .ok (.getfield 10, 3) := by decide +kernel
theorem dX11_call_23 : decode cX11_call 23 = .ok (.getfield 264, 3) := by decide +kernel
theorem dX11_call_26 : decode cX11_call 26 = .ok (.iconst 3, 1) := by decide +kernel
theorem dX11_call_27 : decode cX11_call 27 = .ok (.iload_n 1, 1) := by decide +kernel
theorem dX11_call_28 : decode cX11_call 28 = .ok (.imul, 1) := by decide +kernel
theorem dX11_call_29 : decode cX11_call 29 = .ok (.iload_n 2, 1) := by decide +kernel
theorem dX11_call_30 : decode cX11_call 30 = .ok (.iadd, 1) := by decide +kernel
theorem dX11_call_31 : decode cX11_call 31 = .ok (.iaload, 1) := by decide +kernel
theorem dX11_call_32 : decode cX11_call 32 = .ok (.ireturn, 1) := by decide +kernel
theorem dX11_call_33 : decode cX11_call 33 = .ok (.iload_n 2, 1) := by decide +kernel
theorem dX11_call_34 : decode cX11_call 34 = .ok (.iconst 3, 1) := by decide +kernel
theorem dX11_call_35 : decode cX11_call 35 = .ok (.if_icmp .ne 11, 3) := by decide +kernel
theorem dX11_call_38 : decode cX11_call 38 = .ok (.aload_n 0, 1) := by decide +kernel
theorem dX11_call_39 : decode cX11_call 39 = .ok (.iload_n 1, 1) := by decide +kernel
theorem dX11_call_40 : decode cX11_call 40 = .ok (.invokevirtual 270, 3) := by decide +kernel
theorem dX11_call_43 : decode cX11_call 43 = .ok (.goto 4, 3) := by decide +kernel
theorem dX11_call_46 : decode cX11_call 46 = .ok (.iconst (-1), 1) := by decide +kernel
theorem dX11_call_47 : decode cX11_call 47 = .ok (.ireturn, 1) := by decide +kernel
theorem ck_X11_267 : zcV RX11 RX11 yX11_isCalls cX11_isCalls 2 (some .boolean) 267 1 := ⟨hk_tq5 43 (by decide +kernel) (by decide +kernel), hk_tq5 40 (by decide +kernel) (by decide +kernel), hk_tq1 1 (by decide +kernel) (by decide +kernel), ⟨by decide, by decide, by decide +kernel⟩, hk_tq5 42 (by decide +kernel) (by decide +kernel), hk_s 29 (by decide +kernel) (by decide +kernel)⟩
theorem ck_X11_270 : zcV RX11 RX11 yX11_shareOf cX11_shareOf 4 (some .int) 270 1 := ⟨hk_tq5 47 (by decide +kernel) (by decide +kernel), hk_tq5 44 (by decide +kernel) (by decide +kernel), hk_tq1 1 (by decide +kernel) (by decide +kernel), ⟨by decide, by decide, by decide +kernel⟩, hk_tq5 46 (by decide +kernel) (by decide +kernel), hk_s 30 (by decide +kernel) (by decide +kernel)⟩
set_option maxRecDepth 100000 in
set_option maxHeartbeats 4000000 in
theorem k_X11_call (l : Launch) {D : va_G} {ar : Nat → ClassId} {B : Nat → Prop} {b n : Nat} {w0 : zcW} (A : Nat → Int) (τ : Nat → Nat → Int) (k : Int) (what : Int) (hA : ∀ i, inI (A i)) (hR : Rel9 ar b w0 A τ) (hci : ci A) (hc : cn A) (r_k : inI k) (r_what : inI what) : zt_M l D ar B b w0 n yX11_call cX11_call 3 (some .int) 2 43 [.ref b, .int (iz k), .int (iz what)] τ (some (.int (iz (if ¬ (0 ≤ k ∧ k ≤ A 6 - 1) then -1 else if 0 ≤ what ∧ what ≤ 2 then A (630 + 3 * k.toNat + what.toNat) else if what = 3 then 1000 * A (630 + 3 * k.toNat + 2) / A (630 + 3 * k.toNat + 1) else -1)))) (τ) := by
  refine zc_start (own := RX11) (by decide +kernel) rfl (Nat.le_of_ble_eq_true rfl) ?_
  intro p e s m args below meth c C K hr hlk hnam
  refine hv_aload_n C 0 0 dX11_call_0 rfl rfl ?_
  refine hv_iload_n C 1 1 dX11_call_1 rfl rfl ?_
  refine zt_callV [.int (iz k)] [] C K cw_0 rfl (k_X11_isCalls l A τ k hA hR (by omega) hc) ck_X11_267 (by decide) ⟨Nat.zero_le _, Nat.zero_le _⟩ rfl (Nat.le_of_ble_eq_true rfl) dX11_call_2 ?_
  refine hv_as (xb (decide (0 ≤ k ∧ k ≤ A 6 - 1))) rfl ?_
  refine hv_dif_ne C 10 dX11_call_5 (by decide)  (fun h5 => ?_) (fun h5 => ?_)
  · skip
    obtain ⟨kn, rfl⟩ : ∃ n9 : Nat, k = (n9 : Int) := ⟨(k).toNat, by omega⟩
    (try simp only [Int.toNat_natCast] at *)
    refine hv_iload_n C 2 2 dX11_call_10 rfl rfl ?_
    refine hv_iconst C dX11_call_11 ?_
    refine hv_iconst C dX11_call_12 ?_
    refine zt_callS [.int (iz what), .int (iz 0), .int (iz 2)] [] C K (k_X11_within l  τ what 0 2 (by omega) (by omega) (by omega)) ck_X11_62 (by decide) ⟨Nat.zero_le _, Nat.zero_le _⟩ rfl (Nat.le_of_ble_eq_true rfl) dX11_call_13 ?_
    refine hv_as (xb (decide (0 ≤ what ∧ what ≤ 2))) rfl ?_
    refine hv_dif_eq C 33 dX11_call_16 (by decide)  (fun h16 => ?_) (fun h16 => ?_)
    · skip
      refine hv_iload_n C 2 2 dX11_call_33 rfl rfl ?_
      refine hv_iconst C dX11_call_34 ?_
      refine hv_icmp_ne C 46 dX11_call_35 (by decide) (by omega) (by omega) (fun h35 => ?_) (fun h35 => ?_)
      · skip
        refine hv_iconst C dX11_call_46 ?_
        exact zt_iret C hr hlk (by (try simp only [Int.toNat_natCast] at *); first | exact if_p (by omega) rfl | (refine if_n (by omega) ?_; first | (refine if_p (by omega) ?_; exact zc) | (refine if_n (by omega) ?_; first | exact if_p (by omega) rfl | exact if_n (by omega) rfl))) rfl dX11_call_47
      · skip
        refine hv_aload_n C 0 0 dX11_call_38 rfl rfl ?_
        refine hv_iload_n C 1 1 dX11_call_39 rfl rfl ?_
        refine zt_callV [.int (iz ((kn : Nat) : Int))] [] C K cw_0 rfl (k_X11_shareOf l A τ kn hA hR hci (by omega) hc) ck_X11_270 (by decide) ⟨Nat.zero_le _, Nat.zero_le _⟩ rfl (Nat.le_of_ble_eq_true rfl) dX11_call_40 ?_
        refine hv_as ((1000 * A (630 + 3 * kn + 2) / A (630 + 3 * kn + 1))) rfl ?_
        refine hv_goto C 47 dX11_call_43 (by decide) ?_
        exact zt_iret C hr hlk (by (try simp only [Int.toNat_natCast] at *); first | exact if_p (by omega) rfl | (refine if_n (by omega) ?_; first | (refine if_p (by omega) ?_; exact zc) | (refine if_n (by omega) ?_; first | exact if_p (by omega) rfl | exact if_n (by omega) rfl))) rfl dX11_call_47
    · skip
      obtain ⟨wn, rfl⟩ : ∃ n9 : Nat, what = (n9 : Int) := ⟨(what).toNat, by omega⟩
      have zc := hR.calls kn wn (by omega) (by omega)
      refine hv_aload_n C 0 0 dX11_call_19 rfl rfl ?_
      refine zc_get C K (v := .ref (b + 1)) 0 rfl hu_12 (by decide) cw_0 rfl fl_X11_10 rfl dX11_call_20 ?_
      refine zc_get C K (v := .ref (b + 11)) 17 rfl hu_9 (by decide) (cw_at 1 rfl) rfl fl_X11_264 rfl dX11_call_23 ?_
      refine hv_iconst C dX11_call_26 ?_
      refine hv_iload_n C 1 1 dX11_call_27 rfl rfl ?_
      refine hv_imul C dX11_call_28 ?_
      refine hv_iload_n C 2 2 dX11_call_29 rfl rfl ?_
      refine hv_iadd C dX11_call_30 ?_
      refine zc_iald C K (f := (τ 11)) ((3 * kn) + wn) (cw_at 11 rfl) (by omega) (by omega) (by decide) dX11_call_31 ?_
      refine hv_as (τ 11 ((3 * kn) + wn)) rfl ?_
      exact zt_iret C hr hlk (by (try simp only [Int.toNat_natCast] at *); first | exact if_p (by omega) rfl | (refine if_n (by omega) ?_; first | (refine if_p (by omega) ?_; exact zc) | (refine if_n (by omega) ?_; first | exact if_p (by omega) rfl | exact if_n (by omega) rfl))) rfl dX11_call_32
  · skip
    refine hv_iconst C dX11_call_8 ?_
    exact zt_iret C hr hlk (by (try simp only [Int.toNat_natCast] at *); first | exact if_p (by omega) rfl | (refine if_n (by omega) ?_; first | (refine if_p (by omega) ?_; exact zc) | (refine if_n (by omega) ?_; first | exact if_p (by omega) rfl | exact if_n (by omega) rfl))) rfl dX11_call_9
theorem dX11_count_0 : decode cX11_count 0 = .ok (.iload_n 1, 1) := by decide +kernel
theorem dX11_count_1 : decode cX11_count 1 = .ok (.tableswitch 216 0 13 #[71, 79, 90, 101, 112, 123, 134, 142, 153, 161, 169, 182, 195, 208], 71) := by decide +kernel
theorem dX11_count_72 : decode cX11_count 72 = .ok (.aload_n 0, 1) := by decide +kernel
theorem dX11_count_73 : decode cX11_count 73 = .ok (.getfield 10, 3) := by decide +kernel
theorem dX11_count_76 : decode cX11_count 76 = .ok (.getfield 44, 3) := by decide +kernel
theorem dX11_count_79 : decode cX11_count 79 = .ok (.ireturn, 1) := by decide +kernel
theorem dX11_count_80 : decode cX11_count 80 = .ok (.aload_n 0, 1) := by decide +kernel
theorem dX11_count_81 : decode cX11_count 81 = .ok (.getfield 10, 3) := by decide +kernel
theorem dX11_count_84 : decode cX11_count 84 = .ok (.getfield 48, 3) := by decide +kernel
theorem dX11_count_87 : decode cX11_count 87 = .ok (.invokevirtual 52, 3) := by decide +kernel
theorem dX11_count_90 : decode cX11_count 90 = .ok (.ireturn, 1) := by decide +kernel
theorem dX11_count_91 : decode cX11_count 91 = .ok (.aload_n 0, 1) := by decide +kernel
theorem dX11_count_92 : decode cX11_count 92 = .ok (.getfield 10, 3) := by decide +kernel
theorem dX11_count_95 : decode cX11_count 95 = .ok (.getfield 75, 3) := by decide +kernel
theorem dX11_count_98 : decode cX11_count 98 = .ok (.invokevirtual 52, 3) := by decide +kernel
theorem dX11_count_101 : decode cX11_count 101 = .ok (.ireturn, 1) := by decide +kernel
theorem dX11_count_102 : decode cX11_count 102 = .ok (.aload_n 0, 1) := by decide +kernel
theorem dX11_count_103 : decode cX11_count 103 = .ok (.getfield 10, 3) := by decide +kernel
theorem dX11_count_106 : decode cX11_count 106 = .ok (.getfield 109, 3) := by decide +kernel
theorem dX11_count_109 : decode cX11_count 109 = .ok (.invokevirtual 52, 3) := by decide +kernel
theorem dX11_count_112 : decode cX11_count 112 = .ok (.ireturn, 1) := by decide +kernel
theorem dX11_count_113 : decode cX11_count 113 = .ok (.aload_n 0, 1) := by decide +kernel
theorem dX11_count_114 : decode cX11_count 114 = .ok (.getfield 10, 3) := by decide +kernel
theorem dX11_count_117 : decode cX11_count 117 = .ok (.getfield 124, 3) := by decide +kernel
theorem dX11_count_120 : decode cX11_count 120 = .ok (.invokevirtual 52, 3) := by decide +kernel
theorem dX11_count_123 : decode cX11_count 123 = .ok (.ireturn, 1) := by decide +kernel
theorem dX11_count_124 : decode cX11_count 124 = .ok (.aload_n 0, 1) := by decide +kernel
theorem dX11_count_125 : decode cX11_count 125 = .ok (.getfield 10, 3) := by decide +kernel
theorem dX11_count_128 : decode cX11_count 128 = .ok (.getfield 135, 3) := by decide +kernel
theorem dX11_count_131 : decode cX11_count 131 = .ok (.invokevirtual 52, 3) := by decide +kernel
theorem dX11_count_134 : decode cX11_count 134 = .ok (.ireturn, 1) := by decide +kernel
theorem dX11_count_135 : decode cX11_count 135 = .ok (.aload_n 0, 1) := by decide +kernel
theorem dX11_count_136 : decode cX11_count 136 = .ok (.getfield 10, 3) := by decide +kernel
theorem dX11_count_139 : decode cX11_count 139 = .ok (.getfield 261, 3) := by decide +kernel
theorem dX11_count_142 : decode cX11_count 142 = .ok (.ireturn, 1) := by decide +kernel
theorem dX11_count_143 : decode cX11_count 143 = .ok (.aload_n 0, 1) := by decide +kernel
theorem dX11_count_144 : decode cX11_count 144 = .ok (.getfield 10, 3) := by decide +kernel
theorem dX11_count_147 : decode cX11_count 147 = .ok (.getfield 275, 3) := by decide +kernel
theorem dX11_count_150 : decode cX11_count 150 = .ok (.getfield 279, 3) := by decide +kernel
theorem dX11_count_153 : decode cX11_count 153 = .ok (.ireturn, 1) := by decide +kernel
theorem dX11_count_154 : decode cX11_count 154 = .ok (.aload_n 0, 1) := by decide +kernel
theorem dX11_count_155 : decode cX11_count 155 = .ok (.getfield 10, 3) := by decide +kernel
theorem dX11_count_158 : decode cX11_count 158 = .ok (.getfield 103, 3) := by decide +kernel
theorem dX11_count_161 : decode cX11_count 161 = .ok (.ireturn, 1) := by decide +kernel
theorem dX11_count_162 : decode cX11_count 162 = .ok (.aload_n 0, 1) := by decide +kernel
theorem dX11_count_163 : decode cX11_count 163 = .ok (.getfield 10, 3) := by decide +kernel
theorem dX11_count_166 : decode cX11_count 166 = .ok (.getfield 106, 3) := by decide +kernel
theorem dX11_count_169 : decode cX11_count 169 = .ok (.ireturn, 1) := by decide +kernel
theorem dX11_count_170 : decode cX11_count 170 = .ok (.aload_n 0, 1) := by decide +kernel
theorem dX11_count_171 : decode cX11_count 171 = .ok (.getfield 10, 3) := by decide +kernel
theorem dX11_count_174 : decode cX11_count 174 = .ok (.getfield 196, 3) := by decide +kernel
theorem dX11_count_177 : decode cX11_count 177 = .ok (.iconst 0, 1) := by decide +kernel
theorem dX11_count_178 : decode cX11_count 178 = .ok (.aaload, 1) := by decide +kernel
theorem dX11_count_179 : decode cX11_count 179 = .ok (.getfield 204, 3) := by decide +kernel
theorem dX11_count_182 : decode cX11_count 182 = .ok (.ireturn, 1) := by decide +kernel
theorem dX11_count_183 : decode cX11_count 183 = .ok (.aload_n 0, 1) := by decide +kernel
theorem dX11_count_184 : decode cX11_count 184 = .ok (.getfield 10, 3) := by decide +kernel
theorem dX11_count_187 : decode cX11_count 187 = .ok (.getfield 196, 3) := by decide +kernel
theorem dX11_count_190 : decode cX11_count 190 = .ok (.iconst 1, 1) := by decide +kernel
theorem dX11_count_191 : decode cX11_count 191 = .ok (.aaload, 1) := by decide +kernel
theorem dX11_count_192 : decode cX11_count 192 = .ok (.getfield 204, 3) := by decide +kernel
theorem dX11_count_195 : decode cX11_count 195 = .ok (.ireturn, 1) := by decide +kernel
theorem dX11_count_196 : decode cX11_count 196 = .ok (.aload_n 0, 1) := by decide +kernel
theorem dX11_count_197 : decode cX11_count 197 = .ok (.getfield 10, 3) := by decide +kernel
theorem dX11_count_200 : decode cX11_count 200 = .ok (.getfield 196, 3) := by decide +kernel
theorem dX11_count_203 : decode cX11_count 203 = .ok (.iconst 2, 1) := by decide +kernel
theorem dX11_count_204 : decode cX11_count 204 = .ok (.aaload, 1) := by decide +kernel
theorem dX11_count_205 : decode cX11_count 205 = .ok (.getfield 204, 3) := by decide +kernel
theorem dX11_count_208 : decode cX11_count 208 = .ok (.ireturn, 1) := by decide +kernel
theorem dX11_count_209 : decode cX11_count 209 = .ok (.aload_n 0, 1) := by decide +kernel
theorem dX11_count_210 : decode cX11_count 210 = .ok (.getfield 10, 3) := by decide +kernel
theorem dX11_count_213 : decode cX11_count 213 = .ok (.getfield 234, 3) := by decide +kernel
theorem dX11_count_216 : decode cX11_count 216 = .ok (.ireturn, 1) := by decide +kernel
theorem dX11_count_217 : decode cX11_count 217 = .ok (.bipush (-2), 2) := by decide +kernel
theorem dX11_count_219 : decode cX11_count 219 = .ok (.ireturn, 1) := by decide +kernel
theorem fl_X11_48 : Cond.fieldLink RX11 48 "HookUps$Told" (TX8 1).2.1 (TX8 1).2.2.1 ∈ hk_tb := hk_tq1 127 (by decide +kernel) (by decide +kernel)
theorem fl_X11_109 : Cond.fieldLink RX11 109 "HookUps$Told" (TX8 5).2.1 (TX8 5).2.2.1 ∈ hk_tb := hk_tq1 137 (by decide +kernel) (by decide +kernel)
theorem fl_X11_135 : Cond.fieldLink RX11 135 "HookUps$Told" (TX8 7).2.1 (TX8 7).2.2.1 ∈ hk_tb := hk_tq1 142 (by decide +kernel) (by decide +kernel)
theorem fl_X11_275 : Cond.fieldLink RX11 275 "HookUps$Told" (TX8 18).2.1 (TX8 18).2.2.1 ∈ hk_tb := hk_tq1 164 (by decide +kernel) (by decide +kernel)
theorem fl_X11_279 : Cond.fieldLink RX11 279 "HookUps$Evening" (TX2 0).2.1 (TX2 0).2.2.1 ∈ hk_tb := hk_tq1 76 (by decide +kernel) (by decide +kernel)
theorem fl_X11_103 : Cond.fieldLink RX11 103 "HookUps$Told" (TX8 8).2.1 (TX8 8).2.2.1 ∈ hk_tb := hk_tq1 144 (by decide +kernel) (by decide +kernel)
theorem fl_X11_106 : Cond.fieldLink RX11 106 "HookUps$Told" (TX8 9).2.1 (TX8 9).2.2.1 ∈ hk_tb := hk_tq1 146 (by decide +kernel) (by decide +kernel)
theorem fl_X11_204 : Cond.fieldLink RX11 204 "HookUps$Contract" (TX1 0).2.1 (TX1 0).2.2.1 ∈ hk_tb := hk_tq1 109 (by decide +kernel) (by decide +kernel)
theorem fl_X11_234 : Cond.fieldLink RX11 234 "HookUps$Told" (TX8 10).2.1 (TX8 10).2.2.1 ∈ hk_tb := hk_tq1 148 (by decide +kernel) (by decide +kernel)
set_option maxRecDepth 100000 in
set_option maxHeartbeats 4000000 in
theorem k_X11_count (l : Launch) {D : va_G} {ar : Nat → ClassId} {B : Nat → Prop} {b n : Nat} {w0 : zcW} (A : Nat → Int) (τ : Nat → Nat → Int) (what : Int) (hA : ∀ i, inI (A i)) (hR : Rel9 ar b w0 A τ) (r_what : inI what) : zt_M l D ar B b w0 n yX11_count cX11_count 2 (some .int) 1 20 [.ref b, .int (iz what)] τ (some (.int (iz (if 0 ≤ what ∧ what ≤ 9 then A what.toNat else if 10 ≤ what ∧ what ≤ 12 then A (14 + (what - 10).toNat) else if what = 13 then A 13 else -2)))) (τ) := by
  refine zc_start (own := RX11) (by decide +kernel) rfl (Nat.le_of_ble_eq_true rfl) ?_
  intro p e s m args below meth c C K hr hlk hnam
  have zi := hR.i
  unfold rlI at zi
  have n2 := hR.l2.1
  have n3 := hR.l3.1
  have n6 := hR.l6.1
  have n7 := hR.l7.1
  have n8 := hR.l8.1
  refine hv_iload_n C 1 1 dX11_count_0 rfl rfl ?_
  rcases (by omega : what = 0 ∨ what = 1 ∨ what = 2 ∨ what = 3 ∨ what = 4 ∨ what = 5 ∨ what = 6 ∨ what = 7 ∨ what = 8 ∨ what = 9 ∨ what = 10 ∨ what = 11 ∨ what = 12 ∨ what = 13 ∨ (what < 0 ∨ 13 < what)) with q | q | q | q | q | q | q | q | q | q | q | q | q | q | q
  · subst q
    refine hv_tableIn C 72 ⟨by decide, by decide⟩ dX11_count_1 (by decide) (by decide) rfl (by decide) ?_
    refine hv_aload_n C 0 0 dX11_count_72 rfl rfl ?_
    refine zc_get C K (v := .ref (b + 1)) 0 rfl hu_12 (by decide) cw_0 rfl fl_X11_10 rfl dX11_count_73 ?_
    refine zc_get C K (v := .int (iz (τ 1 0))) 0 rfl hu_9 (by decide) (cw_at 1 rfl) rfl fl_X11_44 rfl dX11_count_76 ?_
    refine hv_nm (fun x1 ex1 => ?_)
    have rx1 : inI x1 := by rw [ex1]; exact (by have z := hA 0; omega)
    exact zt_iret C hr hlk (by first | (show _ = -2; rfl) | (show _ = A 0; omega) | (show _ = A 1; omega) | (show _ = A 2; omega) | (show _ = A 3; omega) | (show _ = A 4; omega) | (show _ = A 5; omega) | (show _ = A 6; omega) | (show _ = A 7; omega) | (show _ = A 8; omega) | (show _ = A 9; omega) | (show _ = A 13; omega) | (show _ = A (14 + 0); omega) | (show _ = A (14 + 1); omega) | (show _ = A (14 + 2); omega) | (rw [if_neg (by omega), if_neg (by omega), if_neg (by omega)])) rfl dX11_count_79
  · subst q
    refine hv_tableIn C 80 ⟨by decide, by decide⟩ dX11_count_1 (by decide) (by decide) rfl (by decide) ?_
    refine hv_aload_n C 0 0 dX11_count_80 rfl rfl ?_
    refine zc_get C K (v := .ref (b + 1)) 0 rfl hu_12 (by decide) cw_0 rfl fl_X11_10 rfl dX11_count_81 ?_
    refine zc_get C K (v := .ref (b + 2)) 1 rfl hu_9 (by decide) (cw_at 1 rfl) rfl fl_X11_48 rfl dX11_count_84 ?_
    refine zt_callV [] [] C K (cw_at 2 rfl) rfl (k_Jx4a65c_size_8abf5 l 2 τ  rfl) ck_X11_52 (by decide) ⟨Nat.zero_le _, Nat.zero_le _⟩ rfl (Nat.le_of_ble_eq_true rfl) dX11_count_87 ?_
    refine hv_as ((τ 2 2)) rfl ?_
    refine hv_nm (fun x2 ex2 => ?_)
    have rx2 : inI x2 := by rw [ex2]; exact (by have z := hA 1; omega)
    exact zt_iret C hr hlk (by first | (show _ = -2; rfl) | (show _ = A 0; omega) | (show _ = A 1; omega) | (show _ = A 2; omega) | (show _ = A 3; omega) | (show _ = A 4; omega) | (show _ = A 5; omega) | (show _ = A 6; omega) | (show _ = A 7; omega) | (show _ = A 8; omega) | (show _ = A 9; omega) | (show _ = A 13; omega) | (show _ = A (14 + 0); omega) | (show _ = A (14 + 1); omega) | (show _ = A (14 + 2); omega) | (rw [if_neg (by omega), if_neg (by omega), if_neg (by omega)])) rfl dX11_count_90
  · subst q
    refine hv_tableIn C 91 ⟨by decide, by decide⟩ dX11_count_1 (by decide) (by decide) rfl (by decide) ?_
    refine hv_aload_n C 0 0 dX11_count_91 rfl rfl ?_
    refine zc_get C K (v := .ref (b + 1)) 0 rfl hu_12 (by decide) cw_0 rfl fl_X11_10 rfl dX11_count_92 ?_
    refine zc_get C K (v := .ref (b + 3)) 2 rfl hu_9 (by decide) (cw_at 1 rfl) rfl fl_X11_75 rfl dX11_count_95 ?_
    refine zt_callV [] [] C K (cw_at 3 rfl) rfl (k_Jx4a65c_size_8abf5 l 3 τ  rfl) ck_X11_52 (by decide) ⟨Nat.zero_le _, Nat.zero_le _⟩ rfl (Nat.le_of_ble_eq_true rfl) dX11_count_98 ?_
    refine hv_as ((τ 3 2)) rfl ?_
    refine hv_nm (fun x3 ex3 => ?_)
    have rx3 : inI x3 := by rw [ex3]; exact (by have z := hA 2; omega)
    exact zt_iret C hr hlk (by first | (show _ = -2; rfl) | (show _ = A 0; omega) | (show _ = A 1; omega) | (show _ = A 2; omega) | (show _ = A 3; omega) | (show _ = A 4; omega) | (show _ = A 5; omega) | (show _ = A 6; omega) | (show _ = A 7; omega) | (show _ = A 8; omega) | (show _ = A 9; omega) | (show _ = A 13; omega) | (show _ = A (14 + 0); omega) | (show _ = A (14 + 1); omega) | (show _ = A (14 + 2); omega) | (rw [if_neg (by omega), if_neg (by omega), if_neg (by omega)])) rfl dX11_count_101
  · subst q
    refine hv_tableIn C 102 ⟨by decide, by decide⟩ dX11_count_1 (by decide) (by decide) rfl (by decide) ?_
    refine hv_aload_n C 0 0 dX11_count_102 rfl rfl ?_
    refine zc_get C K (v := .ref (b + 1)) 0 rfl hu_12 (by decide) cw_0 rfl fl_X11_10 rfl dX11_count_103 ?_
    refine zc_get C K (v := .ref (b + 6)) 5 rfl hu_9 (by decide) (cw_at 1 rfl) rfl fl_X11_109 rfl dX11_count_106 ?_
    refine zt_callV [] [] C K (cw_at 6 rfl) rfl (k_Jx4a65c_size_8abf5 l 6 τ  rfl) ck_X11_52 (by decide) ⟨Nat.zero_le _, Nat.zero_le _⟩ rfl (Nat.le_of_ble_eq_true rfl) dX11_count_109 ?_
    refine hv_as ((τ 6 2)) rfl ?_
    refine hv_nm (fun x4 ex4 => ?_)
    have rx4 : inI x4 := by rw [ex4]; exact (by have z := hA 3; omega)
    exact zt_iret C hr hlk (by first | (show _ = -2; rfl) | (show _ = A 0; omega) | (show _ = A 1; omega) | (show _ = A 2; omega) | (show _ = A 3; omega) | (show _ = A 4; omega) | (show _ = A 5; omega) | (show _ = A 6; omega) | (show _ = A 7; omega) | (show _ = A 8; omega) | (show _ = A 9; omega) | (show _ = A 13; omega) | (show _ = A (14 + 0); omega) | (show _ = A (14 + 1); omega) | (show _ = A (14 + 2); omega) | (rw [if_neg (by omega), if_neg (by omega), if_neg (by omega)])) rfl dX11_count_112
  · subst q
    refine hv_tableIn C 113 ⟨by decide, by decide⟩ dX11_count_1 (by decide) (by decide) rfl (by decide) ?_
    refine hv_aload_n C 0 0 dX11_count_113 rfl rfl ?_
    refine zc_get C K (v := .ref (b + 1)) 0 rfl hu_12 (by decide) cw_0 rfl fl_X11_10 rfl dX11_count_114 ?_
    refine zc_get C K (v := .ref (b + 7)) 6 rfl hu_9 (by decide) (cw_at 1 rfl) rfl fl_X11_124 rfl dX11_count_117 ?_
    refine zt_callV [] [] C K (cw_at 7 rfl) rfl (k_Jx4a65c_size_8abf5 l 7 τ  rfl) ck_X11_52 (by decide) ⟨Nat.zero_le _, Nat.zero_le _⟩ rfl (Nat.le_of_ble_eq_true rfl) dX11_count_120 ?_
    refine hv_as ((τ 7 2)) rfl ?_
    refine hv_nm (fun x5 ex5 => ?_)
    have rx5 : inI x5 := by rw [ex5]; exact (by have z := hA 4; omega)
    exact zt_iret C hr hlk (by first | (show _ = -2; rfl) | (show _ = A 0; omega) | (show _ = A 1; omega) | (show _ = A 2; omega) | (show _ = A 3; omega) | (show _ = A 4; omega) | (show _ = A 5; omega) | (show _ = A 6; omega) | (show _ = A 7; omega) | (show _ = A 8; omega) | (show _ = A 9; omega) | (show _ = A 13; omega) | (show _ = A (14 + 0); omega) | (show _ = A (14 + 1); omega) | (show _ = A (14 + 2); omega) | (rw [if_neg (by omega), if_neg (by omega), if_neg (by omega)])) rfl dX11_count_123
  · subst q
    refine hv_tableIn C 124 ⟨by decide, by decide⟩ dX11_count_1 (by decide) (by decide) rfl (by decide) ?_
    refine hv_aload_n C 0 0 dX11_count_124 rfl rfl ?_
    refine zc_get C K (v := .ref (b + 1)) 0 rfl hu_12 (by decide) cw_0 rfl fl_X11_10 rfl dX11_count_125 ?_
    refine zc_get C K (v := .ref (b + 8)) 7 rfl hu_9 (by decide) (cw_at 1 rfl) rfl fl_X11_135 rfl dX11_count_128 ?_
    refine zt_callV [] [] C K (cw_at 8 rfl) rfl (k_Jx4a65c_size_8abf5 l 8 τ  rfl) ck_X11_52 (by decide) ⟨Nat.zero_le _, Nat.zero_le _⟩ rfl (Nat.le_of_ble_eq_true rfl) dX11_count_131 ?_
    refine hv_as ((τ 8 2)) rfl ?_
    refine hv_nm (fun x6 ex6 => ?_)
    have rx6 : inI x6 := by rw [ex6]; exact (by have z := hA 5; omega)
    exact zt_iret C hr hlk (by first | (show _ = -2; rfl) | (show _ = A 0; omega) | (show _ = A 1; omega) | (show _ = A 2; omega) | (show _ = A 3; omega) | (show _ = A 4; omega) | (show _ = A 5; omega) | (show _ = A 6; omega) | (show _ = A 7; omega) | (show _ = A 8; omega) | (show _ = A 9; omega) | (show _ = A 13; omega) | (show _ = A (14 + 0); omega) | (show _ = A (14 + 1); omega) | (show _ = A (14 + 2); omega) | (rw [if_neg (by omega), if_neg (by omega), if_neg (by omega)])) rfl dX11_count_134
  · subst q
    refine hv_tableIn C 135 ⟨by decide, by decide⟩ dX11_count_1 (by decide) (by decide) rfl (by decide) ?_
    refine hv_aload_n C 0 0 dX11_count_135 rfl rfl ?_
    refine zc_get C K (v := .ref (b + 1)) 0 rfl hu_12 (by decide) cw_0 rfl fl_X11_10 rfl dX11_count_136 ?_
    refine zc_get C K (v := .int (iz (τ 1 16))) 16 rfl hu_9 (by decide) (cw_at 1 rfl) rfl fl_X11_261 rfl dX11_count_139 ?_
    refine hv_nm (fun x7 ex7 => ?_)
    have rx7 : inI x7 := by rw [ex7]; exact (by have z := hA 6; omega)
    exact zt_iret C hr hlk (by first | (show _ = -2; rfl) | (show _ = A 0; omega) | (show _ = A 1; omega) | (show _ = A 2; omega) | (show _ = A 3; omega) | (show _ = A 4; omega) | (show _ = A 5; omega) | (show _ = A 6; omega) | (show _ = A 7; omega) | (show _ = A 8; omega) | (show _ = A 9; omega) | (show _ = A 13; omega) | (show _ = A (14 + 0); omega) | (show _ = A (14 + 1); omega) | (show _ = A (14 + 2); omega) | (rw [if_neg (by omega), if_neg (by omega), if_neg (by omega)])) rfl dX11_count_142
  · subst q
    refine hv_tableIn C 143 ⟨by decide, by decide⟩ dX11_count_1 (by decide) (by decide) rfl (by decide) ?_
    refine hv_aload_n C 0 0 dX11_count_143 rfl rfl ?_
    refine zc_get C K (v := .ref (b + 1)) 0 rfl hu_12 (by decide) cw_0 rfl fl_X11_10 rfl dX11_count_144 ?_
    refine zc_get C K (v := .ref (b + 12)) 18 rfl hu_9 (by decide) (cw_at 1 rfl) rfl fl_X11_275 rfl dX11_count_147 ?_
    refine zc_get C K (v := .int (iz (τ 12 0))) 0 rfl hu_3 (by decide) (cw_at 12 rfl) rfl fl_X11_279 rfl dX11_count_150 ?_
    refine hv_nm (fun x8 ex8 => ?_)
    have rx8 : inI x8 := by rw [ex8]; exact (by have z := hA 7; omega)
    exact zt_iret C hr hlk (by first | (show _ = -2; rfl) | (show _ = A 0; omega) | (show _ = A 1; omega) | (show _ = A 2; omega) | (show _ = A 3; omega) | (show _ = A 4; omega) | (show _ = A 5; omega) | (show _ = A 6; omega) | (show _ = A 7; omega) | (show _ = A 8; omega) | (show _ = A 9; omega) | (show _ = A 13; omega) | (show _ = A (14 + 0); omega) | (show _ = A (14 + 1); omega) | (show _ = A (14 + 2); omega) | (rw [if_neg (by omega), if_neg (by omega), if_neg (by omega)])) rfl dX11_count_153
  · subst q
    refine hv_tableIn C 154 ⟨by decide, by decide⟩ dX11_count_1 (by decide) (by decide) rfl (by decide) ?_
    refine hv_aload_n C 0 0 dX11_count_154 rfl rfl ?_
    refine zc_get C K (v := .ref (b + 1)) 0 rfl hu_12 (by decide) cw_0 rfl fl_X11_10 rfl dX11_count_155 ?_
    refine zc_get C K (v := .int (iz (τ 1 8))) 8 rfl hu_9 (by decide) (cw_at 1 rfl) rfl fl_X11_103 rfl dX11_count_158 ?_
    refine hv_nm (fun x9 ex9 => ?_)
    have rx9 : inI x9 := by rw [ex9]; exact (by have z := hA 8; omega)
    exact zt_iret C hr hlk (by first | (show _ = -2; rfl) | (show _ = A 0; omega) | (show _ = A 1; omega) | (show _ = A 2; omega) | (show _ = A 3; omega) | (show _ = A 4; omega) | (show _ = A 5; omega) | (show _ = A 6; omega) | (show _ = A 7; omega) | (show _ = A 8; omega) | (show _ = A 9; omega) | (show _ = A 13; omega) | (show _ = A (14 + 0); omega) | (show _ = A (14 + 1); omega) | (show _ = A (14 + 2); omega) | (rw [if_neg (by omega), if_neg (by omega), if_neg (by omega)])) rfl dX11_count_161
  · subst q
    refine hv_tableIn C 162 ⟨by decide, by decide⟩ dX11_count_1 (by decide) (by decide) rfl (by decide) ?_
    refine hv_aload_n C 0 0 dX11_count_162 rfl rfl ?_
    refine zc_get C K (v := .ref (b + 1)) 0 rfl hu_12 (by decide) cw_0 rfl fl_X11_10 rfl dX11_count_163 ?_
    refine zc_get C K (v := .int (iz (τ 1 9))) 9 rfl hu_9 (by decide) (cw_at 1 rfl) rfl fl_X11_106 rfl dX11_count_166 ?_
    refine hv_nm (fun x10 ex10 => ?_)
    have rx10 : inI x10 := by rw [ex10]; exact (by have z := hA 9; omega)
    exact zt_iret C hr hlk (by first | (show _ = -2; rfl) | (show _ = A 0; omega) | (show _ = A 1; omega) | (show _ = A 2; omega) | (show _ = A 3; omega) | (show _ = A 4; omega) | (show _ = A 5; omega) | (show _ = A 6; omega) | (show _ = A 7; omega) | (show _ = A 8; omega) | (show _ = A 9; omega) | (show _ = A 13; omega) | (show _ = A (14 + 0); omega) | (show _ = A (14 + 1); omega) | (show _ = A (14 + 2); omega) | (rw [if_neg (by omega), if_neg (by omega), if_neg (by omega)])) rfl dX11_count_169
  · subst q
    refine hv_tableIn C 170 ⟨by decide, by decide⟩ dX11_count_1 (by decide) (by decide) rfl (by decide) ?_
    refine hv_aload_n C 0 0 dX11_count_170 rfl rfl ?_
    refine zc_get C K (v := .ref (b + 1)) 0 rfl hu_12 (by decide) cw_0 rfl fl_X11_10 rfl dX11_count_171 ?_
    refine zc_get C K (v := .ref (b + 10)) 15 rfl hu_9 (by decide) (cw_at 1 rfl) rfl fl_X11_196 rfl dX11_count_174 ?_
    refine hv_iconst C dX11_count_177 ?_
    refine zc_aald C K (f := (fun q => rfv ((τ 10) q))) 3 0 (cw_at 10 rfl) rfl (by omega) (by omega) (by decide) dX11_count_178 ?_
    obtain ⟨p8, e8, hC8⟩ := hR.con 0 (by decide)
    obtain ⟨d8, c8, t8, _, _, _, hO8, _⟩ := id hC8
    refine hv_asv (.ref p8) (by show va_rf (rfv (τ 10 0)) = _; rw [e8, rfv_n]; rfl) ?_
    refine zc_get C K (v := .int (iz (A (14 + 0)))) 0 rfl hu_2 (by decide) (cw_ob hO8) rfl fl_X11_204 rfl dX11_count_179 ?_
    refine hv_nm (fun x11 ex11 => ?_)
    have rx11 : inI x11 := by rw [ex11]; exact (hA _)
    exact zt_iret C hr hlk (by first | (show _ = -2; rfl) | (show _ = A 0; omega) | (show _ = A 1; omega) | (show _ = A 2; omega) | (show _ = A 3; omega) | (show _ = A 4; omega) | (show _ = A 5; omega) | (show _ = A 6; omega) | (show _ = A 7; omega) | (show _ = A 8; omega) | (show _ = A 9; omega) | (show _ = A 13; omega) | (show _ = A (14 + 0); omega) | (show _ = A (14 + 1); omega) | (show _ = A (14 + 2); omega) | (rw [if_neg (by omega), if_neg (by omega), if_neg (by omega)])) rfl dX11_count_182
  · subst q
    refine hv_tableIn C 183 ⟨by decide, by decide⟩ dX11_count_1 (by decide) (by decide) rfl (by decide) ?_
    refine hv_aload_n C 0 0 dX11_count_183 rfl rfl ?_
    refine zc_get C K (v := .ref (b + 1)) 0 rfl hu_12 (by decide) cw_0 rfl fl_X11_10 rfl dX11_count_184 ?_
    refine zc_get C K (v := .ref (b + 10)) 15 rfl hu_9 (by decide) (cw_at 1 rfl) rfl fl_X11_196 rfl dX11_count_187 ?_
    refine hv_iconst C dX11_count_190 ?_
    refine zc_aald C K (f := (fun q => rfv ((τ 10) q))) 3 1 (cw_at 10 rfl) rfl (by omega) (by omega) (by decide) dX11_count_191 ?_
    obtain ⟨p8, e8, hC8⟩ := hR.con 1 (by decide)
    obtain ⟨d8, c8, t8, _, _, _, hO8, _⟩ := id hC8
    refine hv_asv (.ref p8) (by show va_rf (rfv (τ 10 1)) = _; rw [e8, rfv_n]; rfl) ?_
    refine zc_get C K (v := .int (iz (A (14 + 1)))) 0 rfl hu_2 (by decide) (cw_ob hO8) rfl fl_X11_204 rfl dX11_count_192 ?_
    refine hv_nm (fun x12 ex12 => ?_)
    have rx12 : inI x12 := by rw [ex12]; exact (hA _)
    exact zt_iret C hr hlk (by first | (show _ = -2; rfl) | (show _ = A 0; omega) | (show _ = A 1; omega) | (show _ = A 2; omega) | (show _ = A 3; omega) | (show _ = A 4; omega) | (show _ = A 5; omega) | (show _ = A 6; omega) | (show _ = A 7; omega) | (show _ = A 8; omega) | (show _ = A 9; omega) | (show _ = A 13; omega) | (show _ = A (14 + 0); omega) | (show _ = A (14 + 1); omega) | (show _ = A (14 + 2); omega) | (rw [if_neg (by omega), if_neg (by omega), if_neg (by omega)])) rfl dX11_count_195
  · subst q
    refine hv_tableIn C 196 ⟨by decide, by decide⟩ dX11_count_1 (by decide) (by decide) rfl (by decide) ?_
    refine hv_aload_n C 0 0 dX11_count_196 rfl rfl ?_
    refine zc_get C K (v := .ref (b + 1)) 0 rfl hu_12 (by decide) cw_0 rfl fl_X11_10 rfl dX11_count_197 ?_
    refine zc_get C K (v := .ref (b + 10)) 15 rfl hu_9 (by decide) (cw_at 1 rfl) rfl fl_X11_196 rfl dX11_count_200 ?_
    refine hv_iconst C dX11_count_203 ?_
    refine zc_aald C K (f := (fun q => rfv ((τ 10) q))) 3 2 (cw_at 10 rfl) rfl (by omega) (by omega) (by decide) dX11_count_204 ?_
    obtain ⟨p8, e8, hC8⟩ := hR.con 2 (by decide)
    obtain ⟨d8, c8, t8, _, _, _, hO8, _⟩ := id hC8
    refine hv_asv (.ref p8) (by show va_rf (rfv (τ 10 2)) = _; rw [e8, rfv_n]; rfl) ?_
    refine zc_get C K (v := .int (iz (A (14 + 2)))) 0 rfl hu_2 (by decide) (cw_ob hO8) rfl fl_X11_204 rfl dX11_count_205 ?_
    refine hv_nm (fun x13 ex13 => ?_)
    have rx13 : inI x13 := by rw [ex13]; exact (hA _)
    exact zt_iret C hr hlk (by first | (show _ = -2; rfl) | (show _ = A 0; omega) | (show _ = A 1; omega) | (show _ = A 2; omega) | (show _ = A 3; omega) | (show _ = A 4; omega) | (show _ = A 5; omega) | (show _ = A 6; omega) | (show _ = A 7; omega) | (show _ = A 8; omega) | (show _ = A 9; omega) | (show _ = A 13; omega) | (show _ = A (14 + 0); omega) | (show _ = A (14 + 1); omega) | (show _ = A (14 + 2); omega) | (rw [if_neg (by omega), if_neg (by omega), if_neg (by omega)])) rfl dX11_count_208
  · subst q
    refine hv_tableIn C 209 ⟨by decide, by decide⟩ dX11_count_1 (by decide) (by decide) rfl (by decide) ?_
    refine hv_aload_n C 0 0 dX11_count_209 rfl rfl ?_
    refine zc_get C K (v := .ref (b + 1)) 0 rfl hu_12 (by decide) cw_0 rfl fl_X11_10 rfl dX11_count_210 ?_
    refine zc_get C K (v := .int (iz (τ 1 10))) 10 rfl hu_9 (by decide) (cw_at 1 rfl) rfl fl_X11_234 rfl dX11_count_213 ?_
    refine hv_nm (fun x14 ex14 => ?_)
    have rx14 : inI x14 := by rw [ex14]; exact (by have z := hA 13; omega)
    exact zt_iret C hr hlk (by first | (show _ = -2; rfl) | (show _ = A 0; omega) | (show _ = A 1; omega) | (show _ = A 2; omega) | (show _ = A 3; omega) | (show _ = A 4; omega) | (show _ = A 5; omega) | (show _ = A 6; omega) | (show _ = A 7; omega) | (show _ = A 8; omega) | (show _ = A 9; omega) | (show _ = A 13; omega) | (show _ = A (14 + 0); omega) | (show _ = A (14 + 1); omega) | (show _ = A (14 + 2); omega) | (rw [if_neg (by omega), if_neg (by omega), if_neg (by omega)])) rfl dX11_count_216
  · skip
    refine hv_tableOut C 217 (by omega) dX11_count_1 q (by decide) ?_
    refine hv_bipush C dX11_count_217 (by decide) ?_
    exact zt_iret C hr hlk (by first | (show _ = -2; rfl) | (show _ = A 0; omega) | (show _ = A 1; omega) | (show _ = A 2; omega) | (show _ = A 3; omega) | (show _ = A 4; omega) | (show _ = A 5; omega) | (show _ = A 6; omega) | (show _ = A 7; omega) | (show _ = A 8; omega) | (show _ = A 9; omega) | (show _ = A 13; omega) | (show _ = A (14 + 0); omega) | (show _ = A (14 + 1); omega) | (show _ = A (14 + 2); omega) | (rw [if_neg (by omega), if_neg (by omega), if_neg (by omega)])) rfl dX11_count_219
