/-! ArrayList.clear -/
theorem zg_id {w : zcW} {a : Nat} {x : va_E} (h : w a = some x) : zc_u w a x = w := by
  funext q
  unfold zc_u
  by_cases e : q = a
  · rw [if_pos e, e, h]
  · rw [if_neg e]
def ncl9 (g : Nat → Option Nat) (i : Nat) : Nat → Option Nat := fun q => if q < i then none else g q
theorem ncl_0 (g : Nat → Option Nat) : ncl9 g 0 = g := by funext q; exact if_neg (Nat.not_lt_zero _)
theorem ncl_s (g : Nat → Option Nat) (i : Nat) : (fun q => if q = i then none else ncl9 g i q) = ncl9 g (i + 1) := by
  funext q
  unfold ncl9
  by_cases c : q = i
  · rw [if_pos c, if_pos (by omega)]
  · rw [if_neg c]
    by_cases d : q < i
    · rw [if_pos d, if_pos (by omega)]
    · rw [if_neg d, if_neg (by omega)]
theorem dJx4a65c_clear_da8c8_0 : decode cJx4a65c_clear_da8c8 0 = .ok (.aload_n 0, 1) := by decide +kernel
theorem dJx4a65c_clear_da8c8_1 : decode cJx4a65c_clear_da8c8 1 = .ok (.dup, 1) := by decide +kernel
theorem dJx4a65c_clear_da8c8_2 : decode cJx4a65c_clear_da8c8 2 = .ok (.getfield 63, 3) := by decide +kernel
theorem dJx4a65c_clear_da8c8_5 : decode cJx4a65c_clear_da8c8 5 = .ok (.iconst 1, 1) := by decide +kernel
theorem dJx4a65c_clear_da8c8_6 : decode cJx4a65c_clear_da8c8 6 = .ok (.iadd, 1) := by decide +kernel
theorem dJx4a65c_clear_da8c8_7 : decode cJx4a65c_clear_da8c8 7 = .ok (.putfield 63, 3) := by decide +kernel
theorem dJx4a65c_clear_da8c8_10 : decode cJx4a65c_clear_da8c8 10 = .ok (.aload_n 0, 1) := by decide +kernel
theorem dJx4a65c_clear_da8c8_11 : decode cJx4a65c_clear_da8c8 11 = .ok (.getfield 9, 3) := by decide +kernel
theorem dJx4a65c_clear_da8c8_14 : decode cJx4a65c_clear_da8c8 14 = .ok (.astore_n 1, 1) := by decide +kernel
theorem dJx4a65c_clear_da8c8_15 : decode cJx4a65c_clear_da8c8 15 = .ok (.aload_n 0, 1) := by decide +kernel
theorem dJx4a65c_clear_da8c8_16 : decode cJx4a65c_clear_da8c8 16 = .ok (.getfield 48, 3) := by decide +kernel
theorem dJx4a65c_clear_da8c8_19 : decode cJx4a65c_clear_da8c8 19 = .ok (.istore_n 2, 1) := by decide +kernel
theorem dJx4a65c_clear_da8c8_20 : decode cJx4a65c_clear_da8c8 20 = .ok (.aload_n 0, 1) := by decide +kernel
theorem dJx4a65c_clear_da8c8_21 : decode cJx4a65c_clear_da8c8 21 = .ok (.iconst 0, 1) := by decide +kernel
theorem dJx4a65c_clear_da8c8_22 : decode cJx4a65c_clear_da8c8 22 = .ok (.dup_x1, 1) := by decide +kernel
theorem dJx4a65c_clear_da8c8_23 : decode cJx4a65c_clear_da8c8 23 = .ok (.putfield 48, 3) := by decide +kernel
theorem dJx4a65c_clear_da8c8_26 : decode cJx4a65c_clear_da8c8 26 = .ok (.istore_n 3, 1) := by decide +kernel
theorem dJx4a65c_clear_da8c8_27 : decode cJx4a65c_clear_da8c8 27 = .ok (.iload_n 3, 1) := by decide +kernel
theorem dJx4a65c_clear_da8c8_28 : decode cJx4a65c_clear_da8c8 28 = .ok (.iload_n 2, 1) := by decide +kernel
theorem dJx4a65c_clear_da8c8_29 : decode cJx4a65c_clear_da8c8 29 = .ok (.if_icmp .ge 13, 3) := by decide +kernel
theorem dJx4a65c_clear_da8c8_32 : decode cJx4a65c_clear_da8c8 32 = .ok (.aload_n 1, 1) := by decide +kernel
theorem dJx4a65c_clear_da8c8_33 : decode cJx4a65c_clear_da8c8 33 = .ok (.iload_n 3, 1) := by decide +kernel
theorem dJx4a65c_clear_da8c8_34 : decode cJx4a65c_clear_da8c8 34 = .ok (.aconst_null, 1) := by decide +kernel
theorem dJx4a65c_clear_da8c8_35 : decode cJx4a65c_clear_da8c8 35 = .ok (.aastore, 1) := by decide +kernel
theorem dJx4a65c_clear_da8c8_36 : decode cJx4a65c_clear_da8c8 36 = .ok (.iinc 3 1, 3) := by decide +kernel
theorem dJx4a65c_clear_da8c8_39 : decode cJx4a65c_clear_da8c8 39 = .ok (.goto (-12), 3) := by decide +kernel
theorem dJx4a65c_clear_da8c8_42 : decode cJx4a65c_clear_da8c8 42 = .ok (.return_, 1) := by decide +kernel
set_option maxRecDepth 100000 in
set_option maxHeartbeats 4000000 in
theorem g_clearE (l : Launch) {D : va_G} {ar : Nat → ClassId} {B : Nat → Prop} {n : Nat} {w : zcW} {q ee : Nat} (hq : q < n) (mc : Int) (hwq : w q = some (.inr (0, [.int (iz mc), .ref ee, .int (iz ((0 : Nat) : Int))]))) : zc_M l D ar B yJx4a65c_clear_da8c8 cJx4a65c_clear_da8c8 4 none 1 20 0 0 [.ref q] w n (fun r' w' n' => r' = none ∧ w' = zc_u w q (.inr (0, [.int (iz (mc + 1)), .ref ee, .int (iz 0)])) ∧ n' = n) := by
  refine zc_start (own := RJx4a65c) (by decide +kernel) rfl (Nat.le_of_ble_eq_true rfl) ?_
  intro p e s m args below meth c C K hr hlk hnam
  refine hv_aload_n C 0 0 dJx4a65c_clear_da8c8_0 rfl rfl ?_
  refine hv_dup C dJx4a65c_clear_da8c8_1 rfl ?_
  refine zc_getM C K hwq rfl fl_Jx4a65c_63 dJx4a65c_clear_da8c8_2 ?_
  refine hv_iconst C dJx4a65c_clear_da8c8_5 ?_
  refine hv_iadd C dJx4a65c_clear_da8c8_6 ?_
  refine zc_putM C K (w2 := (zc_u w q (.inr (0, [.int (iz (mc + 1)), .ref ee, .int (iz ((0 : Nat) : Int))])))) hwq rfl fl_Jx4a65c_63 (Nat.le_of_ble_eq_true rfl) dJx4a65c_clear_da8c8_7 ?_
  refine hv_aload_n C 0 0 dJx4a65c_clear_da8c8_10 rfl rfl ?_
  refine zc_get C K (v := .ref ee) 1 rfl hu_0 (by decide) zg_at rfl fl_Jx4a65c_9 rfl dJx4a65c_clear_da8c8_11 ?_
  refine hv_astore_n C 1 [(1, .ref ee), (0, .ref q)] dJx4a65c_clear_da8c8_14 rfl (by decide) rfl ?_
  refine hv_aload_n C 0 1 dJx4a65c_clear_da8c8_15 rfl rfl ?_
  refine zc_get C K (v := .int (iz ((0 : Nat) : Int))) 2 rfl hu_0 (by decide) zg_at rfl fl_Jx4a65c_48 rfl dJx4a65c_clear_da8c8_16 ?_
  refine hv_istore_n C 2 [(2, .int (iz ((0 : Nat) : Int))), (1, .ref ee), (0, .ref q)] dJx4a65c_clear_da8c8_19 rfl (by decide) rfl ?_
  refine hv_aload_n C 0 2 dJx4a65c_clear_da8c8_20 rfl rfl ?_
  refine hv_iconst C dJx4a65c_clear_da8c8_21 ?_
  refine hv_dupx1 C dJx4a65c_clear_da8c8_22 rfl rfl ?_
  refine zc_put C K (w2 := (zc_u w q (.inr (0, [.int (iz (mc + 1)), .ref ee, .int (iz 0)])))) 2 rfl hu_0 tyJx4a65c tyJx4a65c_ok nmJx4a65c (by decide) zg_at (by rw [zg_uu] <;> rfl) fl_Jx4a65c_48 rfl rfl (ty := tyJx4a65c 2) (by decide +kernel) rfl rfl (Nat.le_of_ble_eq_true rfl) dJx4a65c_clear_da8c8_23 ?_
  refine hv_istore_n C 3 [(3, .int (iz 0)), (2, .int (iz ((0 : Nat) : Int))), (1, .ref ee), (0, .ref q)] dJx4a65c_clear_da8c8_26 rfl (by decide) rfl ?_
  refine hv_iload_n C 3 0 dJx4a65c_clear_da8c8_27 rfl rfl ?_
  refine hv_iload_n C 2 1 dJx4a65c_clear_da8c8_28 rfl rfl ?_
  refine hv_icmp_ge C 42 dJx4a65c_clear_da8c8_29 (by decide) (by decide) (by decide) (fun _ => ?_) (fun h => absurd h (by decide))
  exact zc_vret C hr hlk ⟨rfl, rfl, rfl⟩ dJx4a65c_clear_da8c8_42
set_option maxRecDepth 100000 in
set_option maxHeartbeats 4000000 in
theorem g_clearA (l : Launch) {D : va_G} {ar : Nat → ClassId} {B : Nat → Prop} {n : Nat} {w : zcW} {q ee N sz : Nat} {g : Nat → Option Nat} (hq : q < n) (mc : Int) (hwq : w q = some (.inr (0, [.int (iz mc), .ref ee, .int (iz ((sz : Nat) : Int))]))) (hwe : w ee = some (.inl (ar 2, N, .inr (.inr (.inr (.inr g)))))) (hqe : q ≠ ee) (hsz : sz ≤ N ∧ N ≤ 60) : zc_M l D ar B yJx4a65c_clear_da8c8 cJx4a65c_clear_da8c8 4 none 1 20 0 0 [.ref q] w n (fun r' w' n' => r' = none ∧ w' = (zc_u (zc_u w q (.inr (0, [.int (iz (mc + 1)), .ref ee, .int (iz 0)]))) ee (.inl (ar 2, N, .inr (.inr (.inr (.inr (ncl9 g sz))))))) ∧ n' = n) := by
  refine zc_start (own := RJx4a65c) (by decide +kernel) rfl (Nat.le_of_ble_eq_true rfl) ?_
  intro p e s m args below meth c C K hr hlk hnam
  refine hv_aload_n C 0 0 dJx4a65c_clear_da8c8_0 rfl rfl ?_
  refine hv_dup C dJx4a65c_clear_da8c8_1 rfl ?_
  refine zc_getM C K hwq rfl fl_Jx4a65c_63 dJx4a65c_clear_da8c8_2 ?_
  refine hv_iconst C dJx4a65c_clear_da8c8_5 ?_
  refine hv_iadd C dJx4a65c_clear_da8c8_6 ?_
  refine zc_putM C K (w2 := (zc_u w q (.inr (0, [.int (iz (mc + 1)), .ref ee, .int (iz ((sz : Nat) : Int))])))) hwq rfl fl_Jx4a65c_63 (Nat.le_of_ble_eq_true rfl) dJx4a65c_clear_da8c8_7 ?_
  refine hv_aload_n C 0 0 dJx4a65c_clear_da8c8_10 rfl rfl ?_
  refine zc_get C K (v := .ref ee) 1 rfl hu_0 (by decide) zg_at rfl fl_Jx4a65c_9 rfl dJx4a65c_clear_da8c8_11 ?_
  refine hv_astore_n C 1 [(1, .ref ee), (0, .ref q)] dJx4a65c_clear_da8c8_14 rfl (by decide) rfl ?_
  refine hv_aload_n C 0 1 dJx4a65c_clear_da8c8_15 rfl rfl ?_
  refine zc_get C K (v := .int (iz ((sz : Nat) : Int))) 2 rfl hu_0 (by decide) zg_at rfl fl_Jx4a65c_48 rfl dJx4a65c_clear_da8c8_16 ?_
  refine hv_istore_n C 2 [(2, .int (iz ((sz : Nat) : Int))), (1, .ref ee), (0, .ref q)] dJx4a65c_clear_da8c8_19 rfl (by decide) rfl ?_
  refine hv_aload_n C 0 2 dJx4a65c_clear_da8c8_20 rfl rfl ?_
  refine hv_iconst C dJx4a65c_clear_da8c8_21 ?_
  refine hv_dupx1 C dJx4a65c_clear_da8c8_22 rfl rfl ?_
  refine zc_put C K (w2 := (zc_u w q (.inr (0, [.int (iz (mc + 1)), .ref ee, .int (iz 0)])))) 2 rfl hu_0 tyJx4a65c tyJx4a65c_ok nmJx4a65c (by decide) zg_at (by rw [zg_uu] <;> rfl) fl_Jx4a65c_48 rfl rfl (ty := tyJx4a65c 2) (by decide +kernel) rfl rfl (Nat.le_of_ble_eq_true rfl) dJx4a65c_clear_da8c8_23 ?_
  refine hv_istore_n C 3 [(3, .int (iz 0)), (2, .int (iz ((sz : Nat) : Int))), (1, .ref ee), (0, .ref q)] dJx4a65c_clear_da8c8_26 rfl (by decide) rfl ?_
  have L27 : ∀ (f i : Nat), sz - i < f → i ≤ sz → hvV p l e { frames := 1, cells := 0, slots := 0, locals := 20 } s m args below meth c 4 B 0 0 (MQ below (zc_Q D B (fun r' w' n' => r' = none ∧ w' = (zc_u (zc_u w q (.inr (0, [.int (iz (mc + 1)), .ref ee, .int (iz 0)]))) ee (.inl (ar 2, N, .inr (.inr (.inr (.inr (ncl9 g sz))))))) ∧ n' = n)) args s 0 0 B) (zc_I D B (zc_u (zc_u w q (.inr (0, [.int (iz (mc + 1)), .ref ee, .int (iz 0)]))) ee (.inl (ar 2, N, .inr (.inr (.inr (.inr (ncl9 g i))))))) n s.heap) 27 [(3, .int (iz ((i : Nat) : Int))), (2, .int (iz ((sz : Nat) : Int))), (1, .ref ee), (0, .ref q)] [] := by
    intro f
    induction f with
    | zero => intro i hm; exact absurd hm (Nat.not_lt_zero _)
    | succ f ih =>
      intro i hm hi
      refine hv_iload_n C 3 0 dJx4a65c_clear_da8c8_27 rfl rfl ?_
      refine hv_iload_n C 2 1 dJx4a65c_clear_da8c8_28 rfl rfl ?_
      refine hv_icmp_ge C 42 dJx4a65c_clear_da8c8_29 (by decide) (by omega) (by omega) (fun h29 => ?_) (fun h29 => ?_)
      · have e9 : i = sz := by omega
        subst e9
        exact zc_vret C hr hlk ⟨rfl, rfl, rfl⟩ dJx4a65c_clear_da8c8_42
      · refine hv_aload_n C 1 2 dJx4a65c_clear_da8c8_32 rfl rfl ?_
        refine hv_iload_n C 3 0 dJx4a65c_clear_da8c8_33 rfl rfl ?_
        refine hv_aconst C dJx4a65c_clear_da8c8_34 ?_
        refine zc_aastN C K (w2 := (zc_u (zc_u w q (.inr (0, [.int (iz (mc + 1)), .ref ee, .int (iz 0)]))) ee (.inl (ar 2, N, .inr (.inr (.inr (.inr (ncl9 g (i + 1))))))))) (f := ncl9 g i) 2 i zg_at rfl (by rw [zg_uu, ncl_s]) rfl (by omega) (by omega) dJx4a65c_clear_da8c8_35 ?_
        refine hv_iinc C 3 0 [(3, .int (iz (((i : Nat) : Int) + 1))), (2, .int (iz ((sz : Nat) : Int))), (1, .ref ee), (0, .ref q)] dJx4a65c_clear_da8c8_36 rfl (by decide) rfl ?_
        refine hv_goto C 27 dJx4a65c_clear_da8c8_39 (by decide) ?_
        exact ih (i + 1) (by omega) (by omega)
  have z27 := L27 (sz + 1) 0 (by omega) (Nat.zero_le _)
  rw [ncl_0, zg_id (w := zc_u w q (.inr (0, [.int (iz (mc + 1)), .ref ee, .int (iz 0)]))) (zg_ne (fun h => hqe h.symm) hwe)] at z27
  exact z27
