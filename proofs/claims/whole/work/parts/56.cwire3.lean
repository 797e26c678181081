def tz9 (A E : Nat → Int) (h : Nat) : Nat → Nat
  | 0 => 2 ^ (A (280 + 8 * h + 4)).toNat
  | s + 1 => tz9 A E h s ||| (if E s = (h : Int) then 2 ^ (A (80 + 4 * s + 0)).toNat else 0)

theorem dX10_townsOf_0 : decode cX10_townsOf 0 = .ok (.iconst 1, 1) := by decide +kernel
theorem dX10_townsOf_1 : decode cX10_townsOf 1 = .ok (.aload_n 1, 1) := by decide +kernel
theorem dX10_townsOf_2 : decode cX10_townsOf 2 = .ok (.getfield 51, 3) := by decide +kernel
theorem dX10_townsOf_5 : decode cX10_townsOf 5 = .ok (.iload_n 2, 1) := by decide +kernel
theorem dX10_townsOf_6 : decode cX10_townsOf 6 = .ok (.invokevirtual 54, 3) := by decide +kernel
theorem dX10_townsOf_9 : decode cX10_townsOf 9 = .ok (.checkcast 58, 3) := by decide +kernel
theorem dX10_townsOf_12 : decode cX10_townsOf 12 = .ok (.getfield 94, 3) := by decide +kernel
theorem dX10_townsOf_15 : decode cX10_townsOf 15 = .ok (.ishl, 1) := by decide +kernel
theorem dX10_townsOf_16 : decode cX10_townsOf 16 = .ok (.istore_n 3, 1) := by decide +kernel
theorem dX10_townsOf_17 : decode cX10_townsOf 17 = .ok (.iconst 0, 1) := by decide +kernel
theorem dX10_townsOf_18 : decode cX10_townsOf 18 = .ok (.istore 4, 2) := by decide +kernel
theorem dX10_townsOf_20 : decode cX10_townsOf 20 = .ok (.iload 4, 2) := by decide +kernel
theorem dX10_townsOf_22 : decode cX10_townsOf 22 = .ok (.aload_n 1, 1) := by decide +kernel
theorem dX10_townsOf_23 : decode cX10_townsOf 23 = .ok (.getfield 35, 3) := by decide +kernel
theorem dX10_townsOf_26 : decode cX10_townsOf 26 = .ok (.invokevirtual 41, 3) := by decide +kernel
theorem dX10_townsOf_29 : decode cX10_townsOf 29 = .ok (.if_icmp .ge 40, 3) := by decide +kernel
theorem dX10_townsOf_32 : decode cX10_townsOf 32 = .ok (.aload_n 0, 1) := by decide +kernel
theorem dX10_townsOf_33 : decode cX10_townsOf 33 = .ok (.getfield 15, 3) := by decide +kernel
theorem dX10_townsOf_36 : decode cX10_townsOf 36 = .ok (.iload 4, 2) := by decide +kernel
theorem dX10_townsOf_38 : decode cX10_townsOf 38 = .ok (.iaload, 1) := by decide +kernel
theorem dX10_townsOf_39 : decode cX10_townsOf 39 = .ok (.iload_n 2, 1) := by decide +kernel
theorem dX10_townsOf_40 : decode cX10_townsOf 40 = .ok (.if_icmp .ne 23, 3) := by decide +kernel
theorem dX10_townsOf_43 : decode cX10_townsOf 43 = .ok (.iload_n 3, 1) := by decide +kernel
theorem dX10_townsOf_44 : decode cX10_townsOf 44 = .ok (.iconst 1, 1) := by decide +kernel
theorem dX10_townsOf_45 : decode cX10_townsOf 45 = .ok (.aload_n 1, 1) := by decide +kernel
theorem dX10_townsOf_46 : decode cX10_townsOf 46 = .ok (.getfield 35, 3) := by decide +kernel
theorem dX10_townsOf_49 : decode cX10_townsOf 49 = .ok (.iload 4, 2) := by decide +kernel
theorem dX10_townsOf_51 : decode cX10_townsOf 51 = .ok (.invokevirtual 54, 3) := by decide +kernel
theorem dX10_townsOf_54 : decode cX10_townsOf 54 = .ok (.checkcast 97, 3) := by decide +kernel
theorem dX10_townsOf_57 : decode cX10_townsOf 57 = .ok (.getfield 99, 3) := by decide +kernel
theorem dX10_townsOf_60 : decode cX10_townsOf 60 = .ok (.ishl, 1) := by decide +kernel
theorem dX10_townsOf_61 : decode cX10_townsOf 61 = .ok (.ior, 1) := by decide +kernel
theorem dX10_townsOf_62 : decode cX10_townsOf 62 = .ok (.istore_n 3, 1) := by decide +kernel
theorem dX10_townsOf_63 : decode cX10_townsOf 63 = .ok (.iinc 4 1, 3) := by decide +kernel
theorem dX10_townsOf_66 : decode cX10_townsOf 66 = .ok (.goto (-46), 3) := by decide +kernel
theorem dX10_townsOf_69 : decode cX10_townsOf 69 = .ok (.iload_n 3, 1) := by decide +kernel
theorem dX10_townsOf_70 : decode cX10_townsOf 70 = .ok (.ireturn, 1) := by decide +kernel
theorem fl_X10_51 : Cond.fieldLink RX10 51 "HookUps$Told" (TX8 6).2.1 (TX8 6).2.2.1 ∈ hk_tb := hk_tq1 139 (by decide +kernel) (by decide +kernel)
theorem cl_X10_58 : Cond.classLink RX10 58 RX3 ∈ hk_tb := hk_tq4 156 (by decide +kernel) (by decide +kernel)
theorem fl_X10_94 : Cond.fieldLink RX10 94 "HookUps$Hour" (TX3 3).2.1 (TX3 3).2.2.1 ∈ hk_tb := hk_tq3 103 (by decide +kernel) (by decide +kernel)
theorem fl_X10_35 : Cond.fieldLink RX10 35 "HookUps$Told" (TX8 2).2.1 (TX8 2).2.2.1 ∈ hk_tb := hk_tq1 130 (by decide +kernel) (by decide +kernel)
theorem fl_X10_15 : Cond.fieldLink RX10 15 "HookUps$Wiring" (TX10 1).2.1 (TX10 1).2.2.1 ∈ hk_tb := hk_tq1 216 (by decide +kernel) (by decide +kernel)
theorem cl_X10_97 : Cond.classLink RX10 97 RX7 ∈ hk_tb := hk_tq4 163 (by decide +kernel) (by decide +kernel)
theorem fl_X10_99 : Cond.fieldLink RX10 99 "HookUps$Station" (TX7 0).2.1 (TX7 0).2.2.1 ∈ hk_tb := hk_tq2 209 (by decide +kernel) (by decide +kernel)
set_option maxRecDepth 100000 in
set_option maxHeartbeats 4000000 in
theorem k_X10_townsOf_wa (l : Launch) {D : va_G} {ar : Nat → ClassId} {B : Nat → Prop} {b n : Nat} {w0 : zcW} (A : Nat → Int) (τ : Nat → Nat → Int) (h : Nat) (hA : ∀ i, inI (A i)) (hR : Rel9 ar b w0 A τ) (hc : cn A) (hh : hi A) (hs : si A) (h2 : (h : Int) < A 4) (hE : ∀ i, i < 8 → inI (τ 26 i)) : zt_M l D ar B b w0 n yX10_townsOf cX10_townsOf 5 (some .int) 3 64 [.ref (b + 24), .ref (b + 1), .int (iz ((h : Nat) : Int))] τ (some (.int (iz ((tz9 A (τ 26) h (A 2).toNat : Nat) : Int)))) (τ) := by
  refine zc_start (own := RX10) (by decide +kernel) rfl (Nat.le_of_ble_eq_true rfl) ?_
  intro p e s m args below meth c C K hr hlk hnam
  have hhk := hh h h2
  have n7 := hR.l7.1
  have n3 := hR.l3.1
  refine hv_iconst C dX10_townsOf_0 ?_
  refine hv_aload_n C 1 1 dX10_townsOf_1 rfl rfl ?_
  refine zc_get C K (v := .ref (b + 7)) 6 rfl hu_9 (by decide) (cw_at 1 rfl) rfl fl_X10_51 rfl dX10_townsOf_2 ?_
  refine hv_iload_n C 2 2 dX10_townsOf_5 rfl rfl ?_
  obtain ⟨p1, i1, o1⟩ := (hR : Rel9 ar b w0 A τ).l7.2 h (by omega)
  refine zt_callV [.int (iz ((h : Nat) : Int))] [.int (iz 1)] C K (cw_at 7 rfl) rfl (k_Jx4a65c_get_915e3 l 7 p1 τ h rfl i1) ck_X10_54 (by decide) ⟨Nat.zero_le _, Nat.zero_le _⟩ rfl (Nat.le_of_ble_eq_true rfl) dX10_townsOf_6 ?_
  refine zc_cast C K (cw_ob o1) (hc := rfl) cl_X10_58 dX10_townsOf_9 ?_
  refine zc_get C K (v := .int (iz (A (280 + 8 * h + 4)))) 3 rfl hu_4 (by decide) (cw_ob o1) rfl fl_X10_94 rfl dX10_townsOf_12 ?_
  refine hv_nm (fun x2 ex2 => ?_)
  have rx2 : inI x2 := by rw [ex2]; exact (hA _)
  obtain ⟨tN, rfl⟩ : ∃ n9 : Nat, x2 = (n9 : Int) := ⟨(x2).toNat, by omega⟩
  refine hv_ishl1 C tN (by omega) (by omega) dX10_townsOf_15 ?_
  refine hv_as (((2 ^ tN : Nat) : Int)) (by simp) ?_
  have ztN : (A (280 + 8 * h + 4)).toNat = tN := by omega
  refine hv_istore_n C 3 [(3, .int (iz ((2 ^ tN : Nat) : Int))), (0, .ref (b + 24)), (1, .ref (b + 1)), (2, .int (iz ((h : Nat) : Int)))] dX10_townsOf_16 rfl (by decide) rfl ?_
  refine hv_iconst C dX10_townsOf_17 ?_
  refine hv_istore C 4 [(4, .int (iz 0)), (3, .int (iz ((2 ^ tN : Nat) : Int))), (0, .ref (b + 24)), (1, .ref (b + 1)), (2, .int (iz ((h : Nat) : Int)))] dX10_townsOf_18 (by decide) rfl ?_
  have L20 : ∀ (f : Nat) (tw : Nat) (s9 : Nat), (A 2).toNat - s9 < f → ((s9 : Int) ≤ A 2) → (tw = tz9 A (τ 26) h s9) → hvV p l e { frames := 3, cells := 0, slots := 0, locals := 64 } s m args below meth c 5 B 0 0 (MQ below (zc_Q D B (fun r' w' n' => r' = (some (.int (iz ((tz9 A (τ 26) h (A 2).toNat : Nat) : Int)))) ∧ w' = cw ar b (τ) w0 ∧ n' = n)) args s 0 0 B) (zc_I D B (cw ar b τ w0) n s.heap) 20 [(0, .ref (b + 24)), (1, .ref (b + 1)), (2, .int (iz ((h : Nat) : Int))), (3, .int (iz ((tw : Nat) : Int))), (4, .int (iz ((s9 : Nat) : Int)))] [] := by
    intro f
    induction f with
    | zero => intro _ _ hm; exact absurd hm (Nat.not_lt_zero _)
    | succ f ih20 =>
      intro tw s9 hm20 hs9 htw
      refine hv_iload C 4 4 dX10_townsOf_20 rfl ?_
      refine hv_aload_n C 1 1 dX10_townsOf_22 rfl rfl ?_
      refine zc_get C K (v := .ref (b + 3)) 2 rfl hu_9 (by decide) (cw_at 1 rfl) rfl fl_X10_35 rfl dX10_townsOf_23 ?_
      refine zt_callV [] [.int (iz ((s9 : Nat) : Int))] C K (cw_at 3 rfl) rfl (k_Jx4a65c_size_8abf5 l 3 τ  rfl) ck_X10_41 (by decide) ⟨Nat.zero_le _, Nat.zero_le _⟩ rfl (Nat.le_of_ble_eq_true rfl) dX10_townsOf_26 ?_
      refine hv_as ((τ 3 2)) rfl ?_
      refine hv_nm (fun x3 ex3 => ?_)
      have rx3 : inI x3 := by rw [ex3]; exact (by have z := hA 2; omega)
      refine hv_icmp_ge C 69 dX10_townsOf_29 (by decide) (by omega) (by omega) (fun h29 => ?_) (fun h29 => ?_)
      · skip
        refine hv_iload_n C 3 3 dX10_townsOf_69 rfl rfl ?_
        exact zt_iret C hr hlk (by rw [htw, show (A 2).toNat = s9 by omega]) rfl dX10_townsOf_70
      · skip
        refine hv_aload_n C 0 0 dX10_townsOf_32 rfl rfl ?_
        refine zc_get C K (v := .ref (b + 26)) 1 rfl hu_11 (by decide) (cw_at 24 rfl) rfl fl_X10_15 rfl dX10_townsOf_33 ?_
        refine hv_iload C 4 4 dX10_townsOf_36 rfl ?_
        refine zc_iald C K (f := (τ 26)) s9 (cw_at 26 rfl) (by omega) (by omega) (by decide) dX10_townsOf_38 ?_
        refine hv_as (τ 26 s9) rfl ?_
        refine hv_nm (fun x4 ex4 => ?_)
        have rx4 : inI x4 := by rw [ex4]; exact hE s9 (by omega)
        refine hv_iload_n C 2 2 dX10_townsOf_39 rfl rfl ?_
        refine hv_icmp_ne C 63 dX10_townsOf_40 (by decide) (by omega) (by omega) (fun h40 => ?_) (fun h40 => ?_)
        · skip
          refine hv_iinc C 4 4 [(4, .int (iz (((s9 : Nat) : Int) + 1))), (0, .ref (b + 24)), (1, .ref (b + 1)), (2, .int (iz ((h : Nat) : Int))), (3, .int (iz ((tw : Nat) : Int)))] dX10_townsOf_63 rfl (by decide) rfl ?_
          refine hv_goto C 20 dX10_townsOf_66 (by decide) ?_
          refine hv_loc [1, 2, 3, 4, 0] [(0, .ref (b + 24)), (1, .ref (b + 1)), (2, .int (iz ((h : Nat) : Int))), (3, .int (iz ((tw : Nat) : Int))), (4, .int (iz (((s9 : Nat) : Int) + 1)))] rfl ?_
          exact ih20 tw (s9 + 1) (by omega) (by omega) (by rw [tz9, ← htw]; first | (rw [if_pos (by omega), show (A (80 + 4 * s9 + 0)).toNat = uN by omega]; done) | (rw [if_neg (by omega), Nat.or_zero]))
        · skip
          have hsk := hs s9 (by omega)
          refine hv_iload_n C 3 3 dX10_townsOf_43 rfl rfl ?_
          refine hv_iconst C dX10_townsOf_44 ?_
          refine hv_aload_n C 1 1 dX10_townsOf_45 rfl rfl ?_
          refine zc_get C K (v := .ref (b + 3)) 2 rfl hu_9 (by decide) (cw_at 1 rfl) rfl fl_X10_35 rfl dX10_townsOf_46 ?_
          refine hv_iload C 4 4 dX10_townsOf_49 rfl ?_
          obtain ⟨p5, i5, o5⟩ := (hR : Rel9 ar b w0 A τ).l3.2 s9 (by omega)
          refine zt_callV [.int (iz ((s9 : Nat) : Int))] [.int (iz 1), .int (iz ((tw : Nat) : Int))] C K (cw_at 3 rfl) rfl (k_Jx4a65c_get_915e3 l 3 p5 τ s9 rfl i5) ck_X10_54 (by decide) ⟨Nat.zero_le _, Nat.zero_le _⟩ rfl (Nat.le_of_ble_eq_true rfl) dX10_townsOf_51 ?_
          refine zc_cast C K (cw_ob o5) (hc := rfl) cl_X10_97 dX10_townsOf_54 ?_
          refine zc_get C K (v := .int (iz (A (80 + 4 * s9 + 0)))) 0 rfl hu_8 (by decide) (cw_ob o5) rfl fl_X10_99 rfl dX10_townsOf_57 ?_
          refine hv_nm (fun x6 ex6 => ?_)
          have rx6 : inI x6 := by rw [ex6]; exact (hA _)
          obtain ⟨uN, rfl⟩ : ∃ n9 : Nat, x6 = (n9 : Int) := ⟨(x6).toNat, by omega⟩
          refine hv_ishl1 C uN (by omega) (by omega) dX10_townsOf_60 ?_
          refine hv_iorn C tw (2 ^ uN) rfl (by simp) dX10_townsOf_61 ?_
          refine hv_istore_n C 3 [(3, .int (iz ((tw ||| (2 ^ uN) : Nat) : Int))), (0, .ref (b + 24)), (1, .ref (b + 1)), (2, .int (iz ((h : Nat) : Int))), (4, .int (iz ((s9 : Nat) : Int)))] dX10_townsOf_62 rfl (by decide) rfl ?_
          refine hv_iinc C 4 4 [(4, .int (iz (((s9 : Nat) : Int) + 1))), (3, .int (iz ((tw ||| (2 ^ uN) : Nat) : Int))), (0, .ref (b + 24)), (1, .ref (b + 1)), (2, .int (iz ((h : Nat) : Int)))] dX10_townsOf_63 rfl (by decide) rfl ?_
          refine hv_goto C 20 dX10_townsOf_66 (by decide) ?_
          refine hv_loc [2, 3, 4, 1, 0] [(0, .ref (b + 24)), (1, .ref (b + 1)), (2, .int (iz ((h : Nat) : Int))), (3, .int (iz ((tw ||| (2 ^ uN) : Nat) : Int))), (4, .int (iz (((s9 : Nat) : Int) + 1)))] rfl ?_
          exact ih20 (tw ||| (2 ^ uN)) (s9 + 1) (by omega) (by omega) (by rw [tz9, ← htw]; first | (rw [if_pos (by omega), show (A (80 + 4 * s9 + 0)).toNat = uN by omega]; done) | (rw [if_neg (by omega), Nat.or_zero]))
  refine hv_loc [2, 3, 4, 1, 0] [(0, .ref (b + 24)), (1, .ref (b + 1)), (2, .int (iz ((h : Nat) : Int))), (3, .int (iz ((2 ^ tN : Nat) : Int))), (4, .int (iz 0))] rfl ?_
  exact L20 _ (2 ^ tN) 0 (Nat.lt_succ_self _) (by omega) (by rw [← ztN]; rfl)
set_option maxRecDepth 100000 in
set_option maxHeartbeats 4000000 in
theorem k_X10_townsOf_wb (l : Launch) {D : va_G} {ar : Nat → ClassId} {B : Nat → Prop} {b n : Nat} {w0 : zcW} (A : Nat → Int) (τ : Nat → Nat → Int) (h : Nat) (hA : ∀ i, inI (A i)) (hR : Rel9 ar b w0 A τ) (hc : cn A) (hh : hi A) (hs : si A) (h2 : (h : Int) < A 4) (hE : ∀ i, i < 8 → inI (τ 32 i)) : zt_M l D ar B b w0 n yX10_townsOf cX10_townsOf 5 (some .int) 3 64 [.ref (b + 30), .ref (b + 1), .int (iz ((h : Nat) : Int))] τ (some (.int (iz ((tz9 A (τ 32) h (A 2).toNat : Nat) : Int)))) (τ) := by
  refine zc_start (own := RX10) (by decide +kernel) rfl (Nat.le_of_ble_eq_true rfl) ?_
  intro p e s m args below meth c C K hr hlk hnam
  have hhk := hh h h2
  have n7 := hR.l7.1
  have n3 := hR.l3.1
  refine hv_iconst C dX10_townsOf_0 ?_
  refine hv_aload_n C 1 1 dX10_townsOf_1 rfl rfl ?_
  refine zc_get C K (v := .ref (b + 7)) 6 rfl hu_9 (by decide) (cw_at 1 rfl) rfl fl_X10_51 rfl dX10_townsOf_2 ?_
  refine hv_iload_n C 2 2 dX10_townsOf_5 rfl rfl ?_
  obtain ⟨p1, i1, o1⟩ := (hR : Rel9 ar b w0 A τ).l7.2 h (by omega)
  refine zt_callV [.int (iz ((h : Nat) : Int))] [.int (iz 1)] C K (cw_at 7 rfl) rfl (k_Jx4a65c_get_915e3 l 7 p1 τ h rfl i1) ck_X10_54 (by decide) ⟨Nat.zero_le _, Nat.zero_le _⟩ rfl (Nat.le_of_ble_eq_true rfl) dX10_townsOf_6 ?_
  refine zc_cast C K (cw_ob o1) (hc := rfl) cl_X10_58 dX10_townsOf_9 ?_
  refine zc_get C K (v := .int (iz (A (280 + 8 * h + 4)))) 3 rfl hu_4 (by decide) (cw_ob o1) rfl fl_X10_94 rfl dX10_townsOf_12 ?_
  refine hv_nm (fun x2 ex2 => ?_)
  have rx2 : inI x2 := by rw [ex2]; exact (hA _)
  obtain ⟨tN, rfl⟩ : ∃ n9 : Nat, x2 = (n9 : Int) := ⟨(x2).toNat, by omega⟩
  refine hv_ishl1 C tN (by omega) (by omega) dX10_townsOf_15 ?_
  refine hv_as (((2 ^ tN : Nat) : Int)) (by simp) ?_
  have ztN : (A (280 + 8 * h + 4)).toNat = tN := by omega
  refine hv_istore_n C 3 [(3, .int (iz ((2 ^ tN : Nat) : Int))), (0, .ref (b + 30)), (1, .ref (b + 1)), (2, .int (iz ((h : Nat) : Int)))] dX10_townsOf_16 rfl (by decide) rfl ?_
  refine hv_iconst C dX10_townsOf_17 ?_
  refine hv_istore C 4 [(4, .int (iz 0)), (3, .int (iz ((2 ^ tN : Nat) : Int))), (0, .ref (b + 30)), (1, .ref (b + 1)), (2, .int (iz ((h : Nat) : Int)))] dX10_townsOf_18 (by decide) rfl ?_
  have L20 : ∀ (f : Nat) (tw : Nat) (s9 : Nat), (A 2).toNat - s9 < f → ((s9 : Int) ≤ A 2) → (tw = tz9 A (τ 32) h s9) → hvV p l e { frames := 3, cells := 0, slots := 0, locals := 64 } s m args below meth c 5 B 0 0 (MQ below (zc_Q D B (fun r' w' n' => r' = (some (.int (iz ((tz9 A (τ 32) h (A 2).toNat : Nat) : Int)))) ∧ w' = cw ar b (τ) w0 ∧ n' = n)) args s 0 0 B) (zc_I D B (cw ar b τ w0) n s.heap) 20 [(0, .ref (b + 30)), (1, .ref (b + 1)), (2, .int (iz ((h : Nat) : Int))), (3, .int (iz ((tw : Nat) : Int))), (4, .int (iz ((s9 : Nat) : Int)))] [] := by
    intro f
    induction f with
    | zero => intro _ _ hm; exact absurd hm (Nat.not_lt_zero _)
    | succ f ih20 =>
      intro tw s9 hm20 hs9 htw
      refine hv_iload C 4 4 dX10_townsOf_20 rfl ?_
      refine hv_aload_n C 1 1 dX10_townsOf_22 rfl rfl ?_
      refine zc_get C K (v := .ref (b + 3)) 2 rfl hu_9 (by decide) (cw_at 1 rfl) rfl fl_X10_35 rfl dX10_townsOf_23 ?_
      refine zt_callV [] [.int (iz ((s9 : Nat) : Int))] C K (cw_at 3 rfl) rfl (k_Jx4a65c_size_8abf5 l 3 τ  rfl) ck_X10_41 (by decide) ⟨Nat.zero_le _, Nat.zero_le _⟩ rfl (Nat.le_of_ble_eq_true rfl) dX10_townsOf_26 ?_
      refine hv_as ((τ 3 2)) rfl ?_
      refine hv_nm (fun x3 ex3 => ?_)
      have rx3 : inI x3 := by rw [ex3]; exact (by have z := hA 2; omega)
      refine hv_icmp_ge C 69 dX10_townsOf_29 (by decide) (by omega) (by omega) (fun h29 => ?_) (fun h29 => ?_)
      · skip
        refine hv_iload_n C 3 3 dX10_townsOf_69 rfl rfl ?_
        exact zt_iret C hr hlk (by rw [htw, show (A 2).toNat = s9 by omega]) rfl dX10_townsOf_70
      · skip
        refine hv_aload_n C 0 0 dX10_townsOf_32 rfl rfl ?_
        refine zc_get C K (v := .ref (b + 32)) 1 rfl hu_11 (by decide) (cw_at 30 rfl) rfl fl_X10_15 rfl dX10_townsOf_33 ?_
        refine hv_iload C 4 4 dX10_townsOf_36 rfl ?_
        refine zc_iald C K (f := (τ 32)) s9 (cw_at 32 rfl) (by omega) (by omega) (by decide) dX10_townsOf_38 ?_
        refine hv_as (τ 32 s9) rfl ?_
        refine hv_nm (fun x4 ex4 => ?_)
        have rx4 : inI x4 := by rw [ex4]; exact hE s9 (by omega)
        refine hv_iload_n C 2 2 dX10_townsOf_39 rfl rfl ?_
        refine hv_icmp_ne C 63 dX10_townsOf_40 (by decide) (by omega) (by omega) (fun h40 => ?_) (fun h40 => ?_)
        · skip
          refine hv_iinc C 4 4 [(4, .int (iz (((s9 : Nat) : Int) + 1))), (0, .ref (b + 30)), (1, .ref (b + 1)), (2, .int (iz ((h : Nat) : Int))), (3, .int (iz ((tw : Nat) : Int)))] dX10_townsOf_63 rfl (by decide) rfl ?_
          refine hv_goto C 20 dX10_townsOf_66 (by decide) ?_
          refine hv_loc [1, 2, 3, 4, 0] [(0, .ref (b + 30)), (1, .ref (b + 1)), (2, .int (iz ((h : Nat) : Int))), (3, .int (iz ((tw : Nat) : Int))), (4, .int (iz (((s9 : Nat) : Int) + 1)))] rfl ?_
          exact ih20 tw (s9 + 1) (by omega) (by omega) (by rw [tz9, ← htw]; first | (rw [if_pos (by omega), show (A (80 + 4 * s9 + 0)).toNat = uN by omega]; done) | (rw [if_neg (by omega), Nat.or_zero]))
        · skip
          have hsk := hs s9 (by omega)
          refine hv_iload_n C 3 3 dX10_townsOf_43 rfl rfl ?_
          refine hv_iconst C dX10_townsOf_44 ?_
          refine hv_aload_n C 1 1 dX10_townsOf_45 rfl rfl ?_
          refine zc_get C K (v := .ref (b + 3)) 2 rfl hu_9 (by decide) (cw_at 1 rfl) rfl fl_X10_35 rfl dX10_townsOf_46 ?_
          refine hv_iload C 4 4 dX10_townsOf_49 rfl ?_
          obtain ⟨p5, i5, o5⟩ := (hR : Rel9 ar b w0 A τ).l3.2 s9 (by omega)
          refine zt_callV [.int (iz ((s9 : Nat) : Int))] [.int (iz 1), .int (iz ((tw : Nat) : Int))] C K (cw_at 3 rfl) rfl (k_Jx4a65c_get_915e3 l 3 p5 τ s9 rfl i5) ck_X10_54 (by decide) ⟨Nat.zero_le _, Nat.zero_le _⟩ rfl (Nat.le_of_ble_eq_true rfl) dX10_townsOf_51 ?_
          refine zc_cast C K (cw_ob o5) (hc := rfl) cl_X10_97 dX10_townsOf_54 ?_
          refine zc_get C K (v := .int (iz (A (80 + 4 * s9 + 0)))) 0 rfl hu_8 (by decide) (cw_ob o5) rfl fl_X10_99 rfl dX10_townsOf_57 ?_
          refine hv_nm (fun x6 ex6 => ?_)
          have rx6 : inI x6 := by rw [ex6]; exact (hA _)
          obtain ⟨uN, rfl⟩ : ∃ n9 : Nat, x6 = (n9 : Int) := ⟨(x6).toNat, by omega⟩
          refine hv_ishl1 C uN (by omega) (by omega) dX10_townsOf_60 ?_
          refine hv_iorn C tw (2 ^ uN) rfl (by simp) dX10_townsOf_61 ?_
          refine hv_istore_n C 3 [(3, .int (iz ((tw ||| (2 ^ uN) : Nat) : Int))), (0, .ref (b + 30)), (1, .ref (b + 1)), (2, .int (iz ((h : Nat) : Int))), (4, .int (iz ((s9 : Nat) : Int)))] dX10_townsOf_62 rfl (by decide) rfl ?_
          refine hv_iinc C 4 4 [(4, .int (iz (((s9 : Nat) : Int) + 1))), (3, .int (iz ((tw ||| (2 ^ uN) : Nat) : Int))), (0, .ref (b + 30)), (1, .ref (b + 1)), (2, .int (iz ((h : Nat) : Int)))] dX10_townsOf_63 rfl (by decide) rfl ?_
          refine hv_goto C 20 dX10_townsOf_66 (by decide) ?_
          refine hv_loc [2, 3, 4, 1, 0] [(0, .ref (b + 30)), (1, .ref (b + 1)), (2, .int (iz ((h : Nat) : Int))), (3, .int (iz ((tw ||| (2 ^ uN) : Nat) : Int))), (4, .int (iz (((s9 : Nat) : Int) + 1)))] rfl ?_
          exact ih20 (tw ||| (2 ^ uN)) (s9 + 1) (by omega) (by omega) (by rw [tz9, ← htw]; first | (rw [if_pos (by omega), show (A (80 + 4 * s9 + 0)).toNat = uN by omega]; done) | (rw [if_neg (by omega), Nat.or_zero]))
  refine hv_loc [2, 3, 4, 1, 0] [(0, .ref (b + 30)), (1, .ref (b + 1)), (2, .int (iz ((h : Nat) : Int))), (3, .int (iz ((2 ^ tN : Nat) : Int))), (4, .int (iz 0))] rfl ?_
  exact L20 _ (2 ^ tN) 0 (Nat.lt_succ_self _) (by omega) (by rw [← ztN]; rfl)
