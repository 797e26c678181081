theorem okE_u {w : zcW} {y a : Nat} {x : va_E} (h : okE w y) (hne : y ≠ a) : okE (zc_u w a x) y := by
  obtain ⟨ci, r, vs, h1, h2, h3⟩ := h
  exact ⟨ci, r, vs, (if_neg hne).trans h1, h2, h3⟩

theorem dJ8_newLength_cabcc_0 : decode cJ8_newLength_cabcc 0 = .ok (.iload_n 0, 1) := by decide +kernel
theorem dJ8_newLength_cabcc_1 : decode cJ8_newLength_cabcc 1 = .ok (.iload_n 1, 1) := by decide +kernel
theorem dJ8_newLength_cabcc_2 : decode cJ8_newLength_cabcc 2 = .ok (.iload_n 2, 1) := by decide +kernel
theorem dJ8_newLength_cabcc_3 : decode cJ8_newLength_cabcc 3 = .ok (.invokestatic 194, 3) := by decide +kernel
theorem dJ8_newLength_cabcc_6 : decode cJ8_newLength_cabcc 6 = .ok (.iadd, 1) := by decide +kernel
theorem dJ8_newLength_cabcc_7 : decode cJ8_newLength_cabcc 7 = .ok (.istore_n 3, 1) := by decide +kernel
theorem dJ8_newLength_cabcc_8 : decode cJ8_newLength_cabcc 8 = .ok (.iconst 0, 1) := by decide +kernel
theorem dJ8_newLength_cabcc_9 : decode cJ8_newLength_cabcc 9 = .ok (.iload_n 3, 1) := by decide +kernel
theorem dJ8_newLength_cabcc_10 : decode cJ8_newLength_cabcc 10 = .ok (.if_icmp .ge 11, 3) := by decide +kernel
theorem dJ8_newLength_cabcc_13 : decode cJ8_newLength_cabcc 13 = .ok (.iload_n 3, 1) := by decide +kernel
theorem dJ8_newLength_cabcc_14 : decode cJ8_newLength_cabcc 14 = .ok (.ldc 200, 2) := by decide +kernel
theorem dJ8_newLength_cabcc_16 : decode cJ8_newLength_cabcc 16 = .ok (.if_icmp .gt 5, 3) := by decide +kernel
theorem dJ8_newLength_cabcc_19 : decode cJ8_newLength_cabcc 19 = .ok (.iload_n 3, 1) := by decide +kernel
theorem dJ8_newLength_cabcc_20 : decode cJ8_newLength_cabcc 20 = .ok (.ireturn, 1) := by decide +kernel
theorem dJ8_newLength_cabcc_21 : decode cJ8_newLength_cabcc 21 = .ok (.iload_n 0, 1) := by decide +kernel
theorem dJ8_newLength_cabcc_22 : decode cJ8_newLength_cabcc 22 = .ok (.iload_n 1, 1) := by decide +kernel
theorem dJ8_newLength_cabcc_23 : decode cJ8_newLength_cabcc 23 = .ok (.invokestatic 201, 3) := by decide +kernel
theorem dJ8_newLength_cabcc_26 : decode cJ8_newLength_cabcc 26 = .ok (.ireturn, 1) := by decide +kernel
theorem ck_J8_194 : zcS RJ8 yJ9_max_7cf53 cJ9_max_7cf53 2 (some .int) 194 2 := ⟨hk_tq2 155 (by decide +kernel) (by decide +kernel), hk_tq2 153 (by decide +kernel) (by decide +kernel), hk_tq1 14 (by decide +kernel) (by decide +kernel), ⟨by decide, by decide, by decide +kernel⟩, hk_tq2 154 (by decide +kernel) (by decide +kernel)⟩
theorem lc_J8_200 : Cond.constant RJ8 200 (iz 2147483639) ∈ hk_tb := hk_tq2 156 (by decide +kernel) (by decide +kernel)
set_option maxRecDepth 100000 in
set_option maxHeartbeats 4000000 in
theorem g_J8_newLength (l : Launch) {D : va_G} {ar : Nat → ClassId} {B : Nat → Prop} {n : Nat} {w : zcW} (x1 x2 x3 : Int) (h : (0 ≤ x1 ∧ x1 ≤ 100) ∧ (1 ≤ x2 ∧ x2 ≤ 100) ∧ (0 ≤ x3 ∧ x3 ≤ 100)) : zc_M l D ar B yJ8_newLength_cabcc cJ8_newLength_cabcc 4 (some .int) 1 40 0 0 [.int (iz x1), .int (iz x2), .int (iz x3)] w n (fun r' w' n' => r' = some (.int (iz (x1 + (if x2 < x3 then x3 else x2)))) ∧ w' = w ∧ n' = n) := by
  refine zc_start (own := RJ8) (by decide +kernel) rfl (Nat.le_of_ble_eq_true rfl) ?_
  intro p e s m args below meth c C K hr hlk hnam
  obtain ⟨mx9, emx⟩ : ∃ z : Int, z = if x2 < x3 then x3 else x2 := ⟨_, rfl⟩
  have zmx9 : 1 ≤ mx9 ∧ mx9 ≤ 100 := by rw [emx]; split <;> omega
  rw [← emx]
  refine hv_iload_n C 0 0 dJ8_newLength_cabcc_0 rfl rfl ?_
  refine hv_iload_n C 1 1 dJ8_newLength_cabcc_1 rfl rfl ?_
  refine hv_iload_n C 2 2 dJ8_newLength_cabcc_2 rfl rfl ?_
  refine zg_callS [.int (iz x2), .int (iz x3)] [.int (iz x1)] C K (gk_J9_max_7cf53 l x2 x3 (by omega) (by omega)) ck_J8_194 ⟨by dsimp only; omega, by dsimp only; omega⟩ ⟨by dsimp only; omega, by dsimp only; omega⟩ rfl (Nat.le_of_ble_eq_true rfl) dJ8_newLength_cabcc_3 (fun r' w' n' h => h) ?_
  refine hv_as (mx9) emx.symm ?_
  refine hv_iadd C dJ8_newLength_cabcc_6 ?_
  refine hv_istore_n C 3 [(3, .int (iz (x1 + mx9))), (0, .int (iz x1)), (1, .int (iz x2)), (2, .int (iz x3))] dJ8_newLength_cabcc_7 rfl (by decide) rfl ?_
  refine hv_iconst C dJ8_newLength_cabcc_8 ?_
  refine hv_iload_n C 3 0 dJ8_newLength_cabcc_9 rfl rfl ?_
  refine hv_icmp_ge C 21 dJ8_newLength_cabcc_10 (by decide) (by omega) (by omega) (fun h => absurd h (by omega)) (fun _ => ?_)
  refine hv_iload_n C 3 0 dJ8_newLength_cabcc_13 rfl rfl ?_
  refine hv_ldc C (n := 2147483639) lc_J8_200 dJ8_newLength_cabcc_14 ?_
  refine hv_icmp_gt C 21 dJ8_newLength_cabcc_16 (by decide) (by omega) (by omega) (fun h => absurd h (by omega)) (fun _ => ?_)
  refine hv_iload_n C 3 0 dJ8_newLength_cabcc_19 rfl rfl ?_
  skip
  exact zc_iret C hr hlk ⟨rfl, rfl, rfl⟩ dJ8_newLength_cabcc_20
theorem dJ7_copyOf_6403c_0 : decode cJ7_copyOf_6403c 0 = .ok (.aload_n 2, 1) := by decide +kernel
theorem dJ7_copyOf_6403c_1 : decode cJ7_copyOf_6403c 1 = .ok (.ldc 110, 2) := by decide +kernel
theorem dJ7_copyOf_6403c_3 : decode cJ7_copyOf_6403c 3 = .ok (.if_acmp .ne 10, 3) := by decide +kernel
theorem dJ7_copyOf_6403c_6 : decode cJ7_copyOf_6403c 6 = .ok (.iload_n 1, 1) := by decide +kernel
theorem dJ7_copyOf_6403c_7 : decode cJ7_copyOf_6403c 7 = .ok (.anewarray 2, 3) := by decide +kernel
theorem dJ7_copyOf_6403c_10 : decode cJ7_copyOf_6403c 10 = .ok (.goto 14, 3) := by decide +kernel
theorem dJ7_copyOf_6403c_13 : decode cJ7_copyOf_6403c 13 = .ok (.aload_n 2, 1) := by decide +kernel
theorem dJ7_copyOf_6403c_14 : decode cJ7_copyOf_6403c 14 = .ok (.invokevirtual 90, 3) := by decide +kernel
theorem dJ7_copyOf_6403c_17 : decode cJ7_copyOf_6403c 17 = .ok (.iload_n 1, 1) := by decide +kernel
theorem dJ7_copyOf_6403c_18 : decode cJ7_copyOf_6403c 18 = .ok (.invokestatic 95, 3) := by decide +kernel
theorem dJ7_copyOf_6403c_21 : decode cJ7_copyOf_6403c 21 = .ok (.checkcast 110, 3) := by decide +kernel
theorem dJ7_copyOf_6403c_24 : decode cJ7_copyOf_6403c 24 = .ok (.astore_n 3, 1) := by decide +kernel
theorem dJ7_copyOf_6403c_25 : decode cJ7_copyOf_6403c 25 = .ok (.aload_n 0, 1) := by decide +kernel
theorem dJ7_copyOf_6403c_26 : decode cJ7_copyOf_6403c 26 = .ok (.iconst 0, 1) := by decide +kernel
theorem dJ7_copyOf_6403c_27 : decode cJ7_copyOf_6403c 27 = .ok (.aload_n 3, 1) := by decide +kernel
theorem dJ7_copyOf_6403c_28 : decode cJ7_copyOf_6403c 28 = .ok (.iconst 0, 1) := by decide +kernel
theorem dJ7_copyOf_6403c_29 : decode cJ7_copyOf_6403c 29 = .ok (.aload_n 0, 1) := by decide +kernel
theorem dJ7_copyOf_6403c_30 : decode cJ7_copyOf_6403c 30 = .ok (.arraylength, 1) := by decide +kernel
theorem dJ7_copyOf_6403c_31 : decode cJ7_copyOf_6403c 31 = .ok (.iload_n 1, 1) := by decide +kernel
theorem dJ7_copyOf_6403c_32 : decode cJ7_copyOf_6403c 32 = .ok (.invokestatic 304, 3) := by decide +kernel
theorem dJ7_copyOf_6403c_35 : decode cJ7_copyOf_6403c 35 = .ok (.invokestatic 150, 3) := by decide +kernel
theorem dJ7_copyOf_6403c_38 : decode cJ7_copyOf_6403c 38 = .ok (.aload_n 3, 1) := by decide +kernel
theorem dJ7_copyOf_6403c_39 : decode cJ7_copyOf_6403c 39 = .ok (.areturn, 1) := by decide +kernel
theorem cl_J7_110 : Cond.classLink RJ7 110 "[Ljava/lang/Object;" ∈ hk_tb := hk_tq2 184 (by decide +kernel) (by decide +kernel)
theorem cl_J7_2 : Cond.classLink RJ7 2 "java/lang/Object" ∈ hk_tb := hk_tq2 186 (by decide +kernel) (by decide +kernel)
theorem ck_J7_304 : zcS RJ7 yJ9_min_7cf53 cJ9_min_7cf53 2 (some .int) 304 2 := ⟨hk_tq2 189 (by decide +kernel) (by decide +kernel), hk_tq2 187 (by decide +kernel) (by decide +kernel), hk_tq1 14 (by decide +kernel) (by decide +kernel), ⟨by decide, by decide, by decide +kernel⟩, hk_tq2 188 (by decide +kernel) (by decide +kernel)⟩
theorem ac_J7_150 : Cond.methodLink RJ7 150 arraycopyName ∈ hk_tb := hk_tq2 190 (by decide +kernel) (by decide +kernel)
set_option maxRecDepth 100000 in
set_option maxHeartbeats 4000000 in
theorem g_copyOf3 (l : Launch) {D : va_G} {ar : Nat → ClassId} {B : Nat → Prop} {n : Nat} {w : zcW} {o : olP} {ee N : Nat} {g : Nat → Option Nat} (he : ee < n) (hwe : w ee = some (.inl (ar 2, N, .inr (.inr (.inr (.inr g)))))) (hel : ∀ i, i < N → ∀ y, g i = some y → okE w y) (hwn : w n = none) (NL : Nat) (hNL : N ≤ NL ∧ NL ≤ 60) : zo_M l D ar B o yJ7_copyOf_6403c cJ7_copyOf_6403c 4 (some (.array (.object "java/lang/Object"))) 1 60 1 60 [.ref ee, .int (iz ((NL : Nat) : Int)), .ref o.2.2.2.2] w n (fun r' w' n' => r' = some (.ref n) ∧ w' = zc_u w n (.inl (ar 2, NL, .inr (.inr (.inr (.inr (fun q => if q < N then g q else (fun _ => none) q)))))) ∧ n' = n + 1) := by
  refine zo_start (own := RJ7) (by decide +kernel) rfl (Nat.le_of_ble_eq_true rfl) ?_
  intro p e s m args below meth c C K O hz hr hlk hnam
  refine hv_aload_n C 2 2 dJ7_copyOf_6403c_0 rfl rfl ?_
  refine zo_ldcM C O cl_J7_110 dJ7_copyOf_6403c_1 ?_
  refine hv_acmp_ne C 13 dJ7_copyOf_6403c_3 (by decide) (fun h => absurd h (fun z => z rfl)) (fun _ => ?_)
  refine hv_iload_n C 1 1 dJ7_copyOf_6403c_6 rfl rfl ?_
  refine zg_newr C K NL (by omega) (by omega) cl_J7_2 K.2.2.2.2.1 (by decide +kernel) K.2.2.2.1.2.2.1 ⟨by dsimp only; omega, by dsimp only; omega⟩ dJ7_copyOf_6403c_7 (n2 := (n + 1)) rfl ?_
  refine hv_goto C 24 dJ7_copyOf_6403c_10 (by decide) ?_
  refine hv_astore_n C 3 [(3, .ref n), (0, .ref ee), (1, .int (iz ((NL : Nat) : Int))), (2, .ref o.2.2.2.2)] dJ7_copyOf_6403c_24 rfl (by decide) rfl ?_
  refine hv_aload_n C 0 1 dJ7_copyOf_6403c_25 rfl rfl ?_
  refine hv_iconst C dJ7_copyOf_6403c_26 ?_
  refine hv_aload_n C 3 0 dJ7_copyOf_6403c_27 rfl rfl ?_
  refine hv_iconst C dJ7_copyOf_6403c_28 ?_
  refine hv_aload_n C 0 1 dJ7_copyOf_6403c_29 rfl rfl ?_
  refine zc_alen C K 2 (zg_ne (by omega) hwe) rfl rfl dJ7_copyOf_6403c_30 ?_
  refine hv_iload_n C 1 2 dJ7_copyOf_6403c_31 rfl rfl ?_
  refine zg_callS [.int (iz ((N : Nat) : Int)), .int (iz ((NL : Nat) : Int))] [.int (iz 0), .ref n, .int (iz 0), .ref ee] C K (gk_J9_min_7cf53 l ((N : Nat) : Int) ((NL : Nat) : Int) (by omega) (by omega)) ck_J7_304 ⟨by dsimp only; omega, by dsimp only; omega⟩ ⟨by dsimp only; omega, by dsimp only; omega⟩ rfl (Nat.le_of_ble_eq_true rfl) dJ7_copyOf_6403c_32 (fun r' w' n' h => h) ?_
  refine hv_as (((N : Nat) : Int)) (if_neg (by omega)) ?_
  refine zc_cpq C K (w2 := (zc_u w n (.inl (ar 2, NL, .inr (.inr (.inr (.inr (fun q => if q < N then g q else (fun _ => none) q)))))))) (g := (fun _ => none)) N (by omega) (zg_ne (by omega) hwe) zg_at (by omega) (by omega) (by omega) (fun i z y h => okE_u (hel i z y h) (by intro z9; obtain ⟨_, _, _, z8, _⟩ := hel i z y h; rw [z9, hwn] at z8; cases z8)) (by rw [zg_uu] <;> rfl) ac_J7_150 (by dsimp only; omega) (by show 0 + 18 ≤ _; dsimp only; omega) dJ7_copyOf_6403c_35 ?_
  refine hv_aload_n C 3 0 dJ7_copyOf_6403c_38 rfl rfl ?_
  refine hv_widen 1 60 (by omega) (by omega) ?_
  exact zc_aret C hr (Or.inr ⟨_, rfl⟩) hlk ⟨rfl, rfl, rfl⟩ dJ7_copyOf_6403c_39
theorem dJ7_copyOf_1904c_0 : decode cJ7_copyOf_1904c 0 = .ok (.aload_n 0, 1) := by decide +kernel
theorem dJ7_copyOf_1904c_1 : decode cJ7_copyOf_1904c 1 = .ok (.iload_n 1, 1) := by decide +kernel
theorem dJ7_copyOf_1904c_2 : decode cJ7_copyOf_1904c 2 = .ok (.aload_n 0, 1) := by decide +kernel
theorem dJ7_copyOf_1904c_3 : decode cJ7_copyOf_1904c 3 = .ok (.invokevirtual 86, 3) := by decide +kernel
theorem dJ7_copyOf_1904c_6 : decode cJ7_copyOf_1904c 6 = .ok (.invokestatic 300, 3) := by decide +kernel
theorem dJ7_copyOf_1904c_9 : decode cJ7_copyOf_1904c 9 = .ok (.areturn, 1) := by decide +kernel
theorem gc_J7_86 : Cond.methodLink RJ7 86 ⟨"java/lang/Object", "getClass", "()Ljava/lang/Class;"⟩ ∈ hk_tb := hk_tq2 163 (by decide +kernel) (by decide +kernel)
theorem ck_J7_300 : zcS RJ7 yJ7_copyOf_6403c cJ7_copyOf_6403c 4 (some (.array (.object "java/lang/Object"))) 300 3 := ⟨hk_tq2 183 (by decide +kernel) (by decide +kernel), hk_tq2 181 (by decide +kernel) (by decide +kernel), hk_tq1 15 (by decide +kernel) (by decide +kernel), ⟨by decide, by decide, by decide +kernel⟩, hk_tq2 182 (by decide +kernel) (by decide +kernel)⟩
set_option maxRecDepth 100000 in
set_option maxHeartbeats 4000000 in
theorem g_copyOf2 (l : Launch) {D : va_G} {ar : Nat → ClassId} {B : Nat → Prop} {n : Nat} {w : zcW} {o : olP} {ee N : Nat} {g : Nat → Option Nat} (he : ee < n) (hwe : w ee = some (.inl (ar 2, N, .inr (.inr (.inr (.inr g)))))) (hel : ∀ i, i < N → ∀ y, g i = some y → okE w y) (hwn : w n = none) (NL : Nat) (hNL : N ≤ NL ∧ NL ≤ 60) : zo_M l D ar B o yJ7_copyOf_1904c cJ7_copyOf_1904c 2 (some (.array (.object "java/lang/Object"))) 2 90 1 60 [.ref ee, .int (iz ((NL : Nat) : Int))] w n (fun r' w' n' => r' = some (.ref n) ∧ w' = zc_u w n (.inl (ar 2, NL, .inr (.inr (.inr (.inr (fun q => if q < N then g q else (fun _ => none) q)))))) ∧ n' = n + 1) := by
  refine zo_start (own := RJ7) (by decide +kernel) rfl (Nat.le_of_ble_eq_true rfl) ?_
  intro p e s m args below meth c C K O hz hr hlk hnam
  refine hv_aload_n C 0 0 dJ7_copyOf_1904c_0 rfl rfl ?_
  refine hv_iload_n C 1 1 dJ7_copyOf_1904c_1 rfl rfl ?_
  refine hv_aload_n C 0 0 dJ7_copyOf_1904c_2 rfl rfl ?_
  refine zo_getC C K O hwe gc_J7_86 (by dsimp only; omega) (by show 2 + 14 ≤ _; dsimp only; omega) dJ7_copyOf_1904c_3 ?_
  refine zgo_callS [.ref ee, .int (iz ((NL : Nat) : Int)), .ref o.2.2.2.2] [] C K O (g_copyOf3 l he hwe hel hwn NL (by omega)) ck_J7_300 ⟨by dsimp only; omega, by dsimp only; omega⟩ ⟨by dsimp only; omega, by dsimp only; omega⟩ rfl (Nat.le_of_ble_eq_true rfl) dJ7_copyOf_1904c_6 (w2 := (zc_u w n (.inl (ar 2, NL, .inr (.inr (.inr (.inr (fun q => if q < N then g q else (fun _ => none) q)))))))) (n2 := n + 1) (fun r' w' n' h => h) ?_
  refine hv_widen 1 60 (by omega) (by omega) ?_
  exact zc_aret C hr (Or.inr ⟨_, rfl⟩) hlk ⟨rfl, rfl, rfl⟩ dJ7_copyOf_1904c_9
theorem dJx4a65c_grow_92f84_0 : decode cJx4a65c_grow_92f84 0 = .ok (.aload_n 0, 1) := by decide +kernel
theorem dJx4a65c_grow_92f84_1 : decode cJx4a65c_grow_92f84 1 = .ok (.getfield 9, 3) := by decide +kernel
theorem dJx4a65c_grow_92f84_4 : decode cJx4a65c_grow_92f84 4 = .ok (.arraylength, 1) := by decide +kernel
theorem dJx4a65c_grow_92f84_5 : decode cJx4a65c_grow_92f84 5 = .ok (.istore_n 2, 1) := by decide +kernel
theorem dJx4a65c_grow_92f84_6 : decode cJx4a65c_grow_92f84 6 = .ok (.iload_n 2, 1) := by decide +kernel
theorem dJx4a65c_grow_92f84_7 : decode cJx4a65c_grow_92f84 7 = .ok (.ifCond .gt 13, 3) := by decide +kernel
theorem dJx4a65c_grow_92f84_10 : decode cJx4a65c_grow_92f84 10 = .ok (.aload_n 0, 1) := by decide +kernel
theorem dJx4a65c_grow_92f84_11 : decode cJx4a65c_grow_92f84 11 = .ok (.getfield 9, 3) := by decide +kernel
theorem dJx4a65c_grow_92f84_14 : decode cJx4a65c_grow_92f84 14 = .ok (.getstatic 39, 3) := by decide +kernel
theorem dJx4a65c_grow_92f84_17 : decode cJx4a65c_grow_92f84 17 = .ok (.if_acmp .eq 28, 3) := by decide +kernel
theorem dJx4a65c_grow_92f84_20 : decode cJx4a65c_grow_92f84 20 = .ok (.iload_n 2, 1) := by decide +kernel
theorem dJx4a65c_grow_92f84_21 : decode cJx4a65c_grow_92f84 21 = .ok (.iload_n 1, 1) := by decide +kernel
theorem dJx4a65c_grow_92f84_22 : decode cJx4a65c_grow_92f84 22 = .ok (.iload_n 2, 1) := by decide +kernel
theorem dJx4a65c_grow_92f84_23 : decode cJx4a65c_grow_92f84 23 = .ok (.isub, 1) := by decide +kernel
theorem dJx4a65c_grow_92f84_24 : decode cJx4a65c_grow_92f84 24 = .ok (.iload_n 2, 1) := by decide +kernel
theorem dJx4a65c_grow_92f84_25 : decode cJx4a65c_grow_92f84 25 = .ok (.iconst 1, 1) := by decide +kernel
theorem dJx4a65c_grow_92f84_26 : decode cJx4a65c_grow_92f84 26 = .ok (.ishr, 1) := by decide +kernel
theorem dJx4a65c_grow_92f84_27 : decode cJx4a65c_grow_92f84 27 = .ok (.invokestatic 73, 3) := by decide +kernel
theorem dJx4a65c_grow_92f84_30 : decode cJx4a65c_grow_92f84 30 = .ok (.istore_n 3, 1) := by decide +kernel
theorem dJx4a65c_grow_92f84_31 : decode cJx4a65c_grow_92f84 31 = .ok (.aload_n 0, 1) := by decide +kernel
theorem dJx4a65c_grow_92f84_32 : decode cJx4a65c_grow_92f84 32 = .ok (.aload_n 0, 1) := by decide +kernel
theorem dJx4a65c_grow_92f84_33 : decode cJx4a65c_grow_92f84 33 = .ok (.getfield 9, 3) := by decide +kernel
theorem dJx4a65c_grow_92f84_36 : decode cJx4a65c_grow_92f84 36 = .ok (.iload_n 3, 1) := by decide +kernel
theorem dJx4a65c_grow_92f84_37 : decode cJx4a65c_grow_92f84 37 = .ok (.invokestatic 66, 3) := by decide +kernel
theorem dJx4a65c_grow_92f84_40 : decode cJx4a65c_grow_92f84 40 = .ok (.dup_x1, 1) := by decide +kernel
theorem dJx4a65c_grow_92f84_41 : decode cJx4a65c_grow_92f84 41 = .ok (.putfield 9, 3) := by decide +kernel
theorem dJx4a65c_grow_92f84_44 : decode cJx4a65c_grow_92f84 44 = .ok (.areturn, 1) := by decide +kernel
theorem dJx4a65c_grow_92f84_45 : decode cJx4a65c_grow_92f84 45 = .ok (.aload_n 0, 1) := by decide +kernel
theorem dJx4a65c_grow_92f84_46 : decode cJx4a65c_grow_92f84 46 = .ok (.bipush 10, 2) := by decide +kernel
theorem dJx4a65c_grow_92f84_48 : decode cJx4a65c_grow_92f84 48 = .ok (.iload_n 1, 1) := by decide +kernel
theorem dJx4a65c_grow_92f84_49 : decode cJx4a65c_grow_92f84 49 = .ok (.invokestatic 79, 3) := by decide +kernel
theorem dJx4a65c_grow_92f84_52 : decode cJx4a65c_grow_92f84 52 = .ok (.anewarray 7, 3) := by decide +kernel
theorem dJx4a65c_grow_92f84_55 : decode cJx4a65c_grow_92f84 55 = .ok (.dup_x1, 1) := by decide +kernel
theorem dJx4a65c_grow_92f84_56 : decode cJx4a65c_grow_92f84 56 = .ok (.putfield 9, 3) := by decide +kernel
theorem dJx4a65c_grow_92f84_59 : decode cJx4a65c_grow_92f84 59 = .ok (.areturn, 1) := by decide +kernel
theorem ck_Jx4a65c_79 : zcS RJx4a65c yJ9_max_7cf53 cJ9_max_7cf53 2 (some .int) 79 2 := ⟨hk_tq2 155 (by decide +kernel) (by decide +kernel), hk_tq2 193 (by decide +kernel) (by decide +kernel), hk_tq1 14 (by decide +kernel) (by decide +kernel), ⟨by decide, by decide, by decide +kernel⟩, hk_tq2 154 (by decide +kernel) (by decide +kernel)⟩
theorem cl_Jx4a65c_7 : Cond.classLink RJx4a65c 7 "java/lang/Object" ∈ hk_tb := hk_tq2 194 (by decide +kernel) (by decide +kernel)
set_option maxRecDepth 100000 in
set_option maxHeartbeats 4000000 in
theorem g_growB1 (l : Launch) {D : va_G} {ar : Nat → ClassId} {B : Nat → Prop} {n : Nat} {w : zcW} {o : olP} {q : Nat} (hq : q < n) (mc : Int) (hwq : w q = some (.inr (0, [.int (iz mc), .ref o.2.1, .int (iz ((0 : Nat) : Int))]))) : zo_M l D ar B o yJx4a65c_grow_92f84 cJx4a65c_grow_92f84 4 (some (.array (.object "java/lang/Object"))) 1 60 1 60 [.ref q, .int (iz 1)] w n (fun r' w' n' => r' = some (.ref n) ∧ w' = (zc_u (zc_u w n (.inl (ar 2, 10, .inr (.inr (.inr (.inr (fun _ => none))))))) q (.inr (0, [.int (iz mc), .ref n, .int (iz ((0 : Nat) : Int))]))) ∧ n' = n + 1) := by
  refine zo_start (own := RJx4a65c) (by decide +kernel) rfl (Nat.le_of_ble_eq_true rfl) ?_
  intro p e s m args below meth c C K O hz hr hlk hnam
  refine hv_aload_n C 0 0 dJx4a65c_grow_92f84_0 rfl rfl ?_
  refine zc_get C K (v := .ref o.2.1) 1 rfl hu_0 (by decide) hwq rfl fl_Jx4a65c_9 rfl dJx4a65c_grow_92f84_1 ?_
  refine zo_tlen C O.2.1 (by omega) (by decide) dJx4a65c_grow_92f84_4 ?_
  refine hv_istore_n C 2 [(2, .int (iz ((0 : Nat) : Int))), (0, .ref q), (1, .int (iz 1))] dJx4a65c_grow_92f84_5 rfl (by decide) rfl ?_
  refine hv_iload_n C 2 0 dJx4a65c_grow_92f84_6 rfl rfl ?_
  refine hv_if_gt C 20 dJx4a65c_grow_92f84_7 (by decide) (by omega) (fun h => absurd h (by omega)) (fun _ => ?_)
  refine hv_aload_n C 0 1 dJx4a65c_grow_92f84_10 rfl rfl ?_
  refine zc_get C K (v := .ref o.2.1) 1 rfl hu_0 (by decide) hwq rfl fl_Jx4a65c_9 rfl dJx4a65c_grow_92f84_11 ?_
  refine zo_gets C O.1 (by omega) fl_Jx4a65c_39 rfl dJx4a65c_grow_92f84_14 ?_
  refine hv_acmp_eq C 45 dJx4a65c_grow_92f84_17 (by decide) (fun _ => ?_) (fun h => absurd h (fun z => z rfl))
  refine hv_aload_n C 0 1 dJx4a65c_grow_92f84_45 rfl rfl ?_
  refine hv_bipush C dJx4a65c_grow_92f84_46 (by decide) ?_
  refine hv_iload_n C 1 2 dJx4a65c_grow_92f84_48 rfl rfl ?_
  refine zg_callS [.int (iz 10), .int (iz 1)] [.ref q] C K (gk_J9_max_7cf53 l 10 1 (by omega) (by omega)) ck_Jx4a65c_79 ⟨by dsimp only; omega, by dsimp only; omega⟩ ⟨by dsimp only; omega, by dsimp only; omega⟩ rfl (Nat.le_of_ble_eq_true rfl) dJx4a65c_grow_92f84_49 (fun r' w' n' h => h) ?_
  refine hv_as (((10 : Nat) : Int)) (by decide) ?_
  refine zg_newr C K 10 (by omega) (by omega) cl_Jx4a65c_7 K.2.2.2.2.1 (by decide +kernel) K.2.2.2.1.2.2.1 ⟨by dsimp only; omega, by dsimp only; omega⟩ dJx4a65c_grow_92f84_52 (n2 := (n + 1)) rfl ?_
  refine hv_dupx1 C dJx4a65c_grow_92f84_55 rfl rfl ?_
  refine zc_put C K (w2 := (zc_u (zc_u w n (.inl (ar 2, 10, .inr (.inr (.inr (.inr (fun _ => none))))))) q (.inr (0, [.int (iz mc), .ref n, .int (iz ((0 : Nat) : Int))])))) 1 rfl hu_0 tyJx4a65c tyJx4a65c_ok nmJx4a65c (by decide) (zg_ne (by omega) hwq) rfl fl_Jx4a65c_9 rfl rfl (ty := tyJx4a65c 1) (by decide +kernel) rfl rfl (Nat.le_of_ble_eq_true rfl) dJx4a65c_grow_92f84_56 ?_
  refine hv_widen 1 60 (by omega) (by omega) ?_
  exact zc_aret C hr (Or.inr ⟨_, rfl⟩) hlk ⟨rfl, rfl, rfl⟩ dJx4a65c_grow_92f84_59
theorem ck_Jx4a65c_73 : zcS RJx4a65c yJ8_newLength_cabcc cJ8_newLength_cabcc 4 (some .int) 73 3 := ⟨hk_tq2 152 (by decide +kernel) (by decide +kernel), hk_tq2 150 (by decide +kernel) (by decide +kernel), hk_tq1 13 (by decide +kernel) (by decide +kernel), ⟨by decide, by decide, by decide +kernel⟩, hk_tq2 151 (by decide +kernel) (by decide +kernel)⟩
theorem ck_Jx4a65c_66 : zcS RJx4a65c yJ7_copyOf_1904c cJ7_copyOf_1904c 2 (some (.array (.object "java/lang/Object"))) 66 2 := ⟨hk_tq2 162 (by decide +kernel) (by decide +kernel), hk_tq2 160 (by decide +kernel) (by decide +kernel), hk_tq1 15 (by decide +kernel) (by decide +kernel), ⟨by decide, by decide, by decide +kernel⟩, hk_tq2 161 (by decide +kernel) (by decide +kernel)⟩
set_option maxRecDepth 100000 in
set_option maxHeartbeats 4000000 in
theorem g_growC1 (l : Launch) {D : va_G} {ar : Nat → ClassId} {B : Nat → Prop} {n : Nat} {w : zcW} {o : olP} {ee N : Nat} {g : Nat → Option Nat} (he : ee < n) (hwe : w ee = some (.inl (ar 2, N, .inr (.inr (.inr (.inr g)))))) (hel : ∀ i, i < N → ∀ y, g i = some y → okE w y) (hwn : w n = none) {q : Nat} (hq : q < n) (mc : Int) (hwq : w q = some (.inr (0, [.int (iz mc), .ref ee, .int (iz ((N : Nat) : Int))]))) (hne : ee ≠ o.2.1) (hqe : q ≠ ee) (NL : Nat) (hNL : (NL : Int) = (N : Int) + (if 1 < (N : Int) / 2 ^ 1 then (N : Int) / 2 ^ 1 else 1)) (hN : 0 < N ∧ N ≤ 39) : zo_M l D ar B o yJx4a65c_grow_92f84 cJx4a65c_grow_92f84 4 (some (.array (.object "java/lang/Object"))) 3 120 1 60 [.ref q, .int (iz (((N : Nat) : Int) + 1))] w n (fun r' w' n' => r' = some (.ref n) ∧ w' = (zc_u (zc_u w n (.inl (ar 2, NL, .inr (.inr (.inr (.inr (fun q => if q < N then g q else (fun _ => none) q))))))) q (.inr (0, [.int (iz mc), .ref n, .int (iz ((N : Nat) : Int))]))) ∧ n' = n + 1) := by
  refine zo_start (own := RJx4a65c) (by decide +kernel) rfl (Nat.le_of_ble_eq_true rfl) ?_
  intro p e s m args below meth c C K O hz hr hlk hnam
  have hNL2 : N ≤ NL ∧ NL ≤ 60 := by have z : (NL : Int) ≤ 60 ∧ (N : Int) ≤ NL := (by rw [hNL]; split <;> omega); omega
  refine hv_aload_n C 0 0 dJx4a65c_grow_92f84_0 rfl rfl ?_
  refine zc_get C K (v := .ref ee) 1 rfl hu_0 (by decide) hwq rfl fl_Jx4a65c_9 rfl dJx4a65c_grow_92f84_1 ?_
  refine zc_alen C K 2 hwe rfl rfl dJx4a65c_grow_92f84_4 ?_
  refine hv_istore_n C 2 [(2, .int (iz ((N : Nat) : Int))), (0, .ref q), (1, .int (iz (((N : Nat) : Int) + 1)))] dJx4a65c_grow_92f84_5 rfl (by decide) rfl ?_
  refine hv_iload_n C 2 0 dJx4a65c_grow_92f84_6 rfl rfl ?_
  refine hv_if_gt C 20 dJx4a65c_grow_92f84_7 (by decide) (by omega) (fun _ => ?_) (fun h => absurd h (by omega))
  refine hv_iload_n C 2 0 dJx4a65c_grow_92f84_20 rfl rfl ?_
  refine hv_iload_n C 1 2 dJx4a65c_grow_92f84_21 rfl rfl ?_
  refine hv_iload_n C 2 0 dJx4a65c_grow_92f84_22 rfl rfl ?_
  refine hv_isub C dJx4a65c_grow_92f84_23 ?_
  refine hv_iload_n C 2 0 dJx4a65c_grow_92f84_24 rfl rfl ?_
  refine hv_iconst C dJx4a65c_grow_92f84_25 ?_
  refine hv_ishr C 1 (by omega) (by omega) (by omega) dJx4a65c_grow_92f84_26 ?_
  refine zg_callS [.int (iz ((N : Nat) : Int)), .int (iz ((((N : Nat) : Int) + 1) - ((N : Nat) : Int))), .int (iz (((N : Nat) : Int) / 2 ^ 1))] [] C K (g_J8_newLength l ((N : Nat) : Int) ((((N : Nat) : Int) + 1) - ((N : Nat) : Int)) (((N : Nat) : Int) / 2 ^ 1) (by omega)) ck_Jx4a65c_73 ⟨by dsimp only; omega, by dsimp only; omega⟩ ⟨by dsimp only; omega, by dsimp only; omega⟩ rfl (Nat.le_of_ble_eq_true rfl) dJx4a65c_grow_92f84_27 (fun r' w' n' h => h) ?_
  refine hv_as (((NL : Nat) : Int)) (by rw [hNL, show ((N : Int) + 1 - (N : Int)) = 1 by omega]) ?_
  refine hv_istore_n C 3 [(3, .int (iz ((NL : Nat) : Int))), (2, .int (iz ((N : Nat) : Int))), (0, .ref q), (1, .int (iz (((N : Nat) : Int) + 1)))] dJx4a65c_grow_92f84_30 rfl (by decide) rfl ?_
  refine hv_aload_n C 0 2 dJx4a65c_grow_92f84_31 rfl rfl ?_
  refine hv_aload_n C 0 2 dJx4a65c_grow_92f84_32 rfl rfl ?_
  refine zc_get C K (v := .ref ee) 1 rfl hu_0 (by decide) hwq rfl fl_Jx4a65c_9 rfl dJx4a65c_grow_92f84_33 ?_
  refine hv_iload_n C 3 0 dJx4a65c_grow_92f84_36 rfl rfl ?_
  refine zgo_callS [.ref ee, .int (iz ((NL : Nat) : Int))] [.ref q] C K O (g_copyOf2 l he hwe hel hwn NL (by omega)) ck_Jx4a65c_66 ⟨by dsimp only; omega, by dsimp only; omega⟩ ⟨by dsimp only; omega, by dsimp only; omega⟩ rfl (Nat.le_of_ble_eq_true rfl) dJx4a65c_grow_92f84_37 (w2 := (zc_u w n (.inl (ar 2, NL, .inr (.inr (.inr (.inr (fun q => if q < N then g q else (fun _ => none) q)))))))) (n2 := n + 1) (fun r' w' n' h => h) ?_
  refine hv_dupx1 C dJx4a65c_grow_92f84_40 rfl rfl ?_
  refine zc_put C K (w2 := (zc_u (zc_u w n (.inl (ar 2, NL, .inr (.inr (.inr (.inr (fun q => if q < N then g q else (fun _ => none) q))))))) q (.inr (0, [.int (iz mc), .ref n, .int (iz ((N : Nat) : Int))])))) 1 rfl hu_0 tyJx4a65c tyJx4a65c_ok nmJx4a65c (by decide) (zg_ne (by omega) hwq) rfl fl_Jx4a65c_9 rfl rfl (ty := tyJx4a65c 1) (by decide +kernel) rfl rfl (Nat.le_of_ble_eq_true rfl) dJx4a65c_grow_92f84_41 ?_
  refine hv_widen 1 60 (by omega) (by omega) ?_
  exact zc_aret C hr (Or.inr ⟨_, rfl⟩) hlk ⟨rfl, rfl, rfl⟩ dJx4a65c_grow_92f84_44
theorem dJx4a65c_grow_d5877_0 : decode cJx4a65c_grow_d5877 0 = .ok (.aload_n 0, 1) := by decide +kernel
theorem dJx4a65c_grow_d5877_1 : decode cJx4a65c_grow_d5877 1 = .ok (.aload_n 0, 1) := by decide +kernel
theorem dJx4a65c_grow_d5877_2 : decode cJx4a65c_grow_d5877 2 = .ok (.getfield 48, 3) := by decide +kernel
theorem dJx4a65c_grow_d5877_5 : decode cJx4a65c_grow_d5877 5 = .ok (.iconst 1, 1) := by decide +kernel
theorem dJx4a65c_grow_d5877_6 : decode cJx4a65c_grow_d5877 6 = .ok (.iadd, 1) := by decide +kernel
theorem dJx4a65c_grow_d5877_7 : decode cJx4a65c_grow_d5877 7 = .ok (.invokevirtual 69, 3) := by decide +kernel
theorem dJx4a65c_grow_d5877_10 : decode cJx4a65c_grow_d5877 10 = .ok (.areturn, 1) := by decide +kernel
theorem ck_Jx4a65c_69 : zcV RJx4a65c RJx4a65c yJx4a65c_grow_92f84 cJx4a65c_grow_92f84 4 (some (.array (.object "java/lang/Object"))) 69 1 := ⟨hk_tq2 149 (by decide +kernel) (by decide +kernel), hk_tq2 146 (by decide +kernel) (by decide +kernel), hk_tq1 5 (by decide +kernel) (by decide +kernel), ⟨by decide, by decide, by decide +kernel⟩, hk_tq2 148 (by decide +kernel) (by decide +kernel), hk_s 3 (by decide +kernel) (by decide +kernel)⟩
set_option maxRecDepth 100000 in
set_option maxHeartbeats 4000000 in
theorem g_growB0 (l : Launch) {D : va_G} {ar : Nat → ClassId} {B : Nat → Prop} {n : Nat} {w : zcW} {o : olP} {q : Nat} (hq : q < n) (mc : Int) (hwq : w q = some (.inr (0, [.int (iz mc), .ref o.2.1, .int (iz ((0 : Nat) : Int))]))) : zo_M l D ar B o yJx4a65c_grow_d5877 cJx4a65c_grow_d5877 1 (some (.array (.object "java/lang/Object"))) 2 90 1 60 [.ref q] w n (fun r' w' n' => r' = some (.ref n) ∧ w' = (zc_u (zc_u w n (.inl (ar 2, 10, .inr (.inr (.inr (.inr (fun _ => none))))))) q (.inr (0, [.int (iz mc), .ref n, .int (iz ((0 : Nat) : Int))]))) ∧ n' = n + 1) := by
  refine zo_start (own := RJx4a65c) (by decide +kernel) rfl (Nat.le_of_ble_eq_true rfl) ?_
  intro p e s m args below meth c C K O hz hr hlk hnam
  refine hv_aload_n C 0 0 dJx4a65c_grow_d5877_0 rfl rfl ?_
  refine hv_aload_n C 0 0 dJx4a65c_grow_d5877_1 rfl rfl ?_
  refine zc_get C K (v := .int (iz ((0 : Nat) : Int))) 2 rfl hu_0 (by decide) hwq rfl fl_Jx4a65c_48 rfl dJx4a65c_grow_d5877_2 ?_
  refine hv_iconst C dJx4a65c_grow_d5877_5 ?_
  refine hv_iadd C dJx4a65c_grow_d5877_6 ?_
  refine hv_as (1) (by omega) ?_
  refine zgo_callV [.int (iz 1)] [] C K O hwq rfl (g_growB1 l hq mc hwq) ck_Jx4a65c_69 ⟨by dsimp only; omega, by dsimp only; omega⟩ ⟨by dsimp only; omega, by dsimp only; omega⟩ rfl (Nat.le_of_ble_eq_true rfl) dJx4a65c_grow_d5877_7 (r := some (.ref n)) (w2 := (zc_u (zc_u w n (.inl (ar 2, 10, .inr (.inr (.inr (.inr (fun _ => none))))))) q (.inr (0, [.int (iz mc), .ref n, .int (iz ((0 : Nat) : Int))])))) (n2 := n + 1) (fun r' w' n' h => ⟨h.1, h.2.1.trans rfl, h.2.2⟩) ?_
  refine hv_widen 1 60 (by omega) (by omega) ?_
  exact zc_aret C hr (Or.inr ⟨_, rfl⟩) hlk ⟨rfl, rfl, rfl⟩ dJx4a65c_grow_d5877_10
set_option maxRecDepth 100000 in
set_option maxHeartbeats 4000000 in
theorem g_growC0 (l : Launch) {D : va_G} {ar : Nat → ClassId} {B : Nat → Prop} {n : Nat} {w : zcW} {o : olP} {ee N : Nat} {g : Nat → Option Nat} (he : ee < n) (hwe : w ee = some (.inl (ar 2, N, .inr (.inr (.inr (.inr g)))))) (hel : ∀ i, i < N → ∀ y, g i = some y → okE w y) (hwn : w n = none) {q : Nat} (hq : q < n) (mc : Int) (hwq : w q = some (.inr (0, [.int (iz mc), .ref ee, .int (iz ((N : Nat) : Int))]))) (hne : ee ≠ o.2.1) (hqe : q ≠ ee) (NL : Nat) (hNL : (NL : Int) = (N : Int) + (if 1 < (N : Int) / 2 ^ 1 then (N : Int) / 2 ^ 1 else 1)) (hN : 0 < N ∧ N ≤ 39) : zo_M l D ar B o yJx4a65c_grow_d5877 cJx4a65c_grow_d5877 1 (some (.array (.object "java/lang/Object"))) 4 150 1 60 [.ref q] w n (fun r' w' n' => r' = some (.ref n) ∧ w' = (zc_u (zc_u w n (.inl (ar 2, NL, .inr (.inr (.inr (.inr (fun q => if q < N then g q else (fun _ => none) q))))))) q (.inr (0, [.int (iz mc), .ref n, .int (iz ((N : Nat) : Int))]))) ∧ n' = n + 1) := by
  refine zo_start (own := RJx4a65c) (by decide +kernel) rfl (Nat.le_of_ble_eq_true rfl) ?_
  intro p e s m args below meth c C K O hz hr hlk hnam
  refine hv_aload_n C 0 0 dJx4a65c_grow_d5877_0 rfl rfl ?_
  refine hv_aload_n C 0 0 dJx4a65c_grow_d5877_1 rfl rfl ?_
  refine zc_get C K (v := .int (iz ((N : Nat) : Int))) 2 rfl hu_0 (by decide) hwq rfl fl_Jx4a65c_48 rfl dJx4a65c_grow_d5877_2 ?_
  refine hv_iconst C dJx4a65c_grow_d5877_5 ?_
  refine hv_iadd C dJx4a65c_grow_d5877_6 ?_
  refine zgo_callV [.int (iz (((N : Nat) : Int) + 1))] [] C K O hwq rfl (g_growC1 l he hwe hel hwn hq mc hwq hne hqe NL hNL hN) ck_Jx4a65c_69 ⟨by dsimp only; omega, by dsimp only; omega⟩ ⟨by dsimp only; omega, by dsimp only; omega⟩ rfl (Nat.le_of_ble_eq_true rfl) dJx4a65c_grow_d5877_7 (r := some (.ref n)) (w2 := (zc_u (zc_u w n (.inl (ar 2, NL, .inr (.inr (.inr (.inr (fun q => if q < N then g q else (fun _ => none) q))))))) q (.inr (0, [.int (iz mc), .ref n, .int (iz ((N : Nat) : Int))])))) (n2 := n + 1) (fun r' w' n' h => ⟨h.1, h.2.1.trans rfl, h.2.2⟩) ?_
  refine hv_widen 1 60 (by omega) (by omega) ?_
  exact zc_aret C hr (Or.inr ⟨_, rfl⟩) hlk ⟨rfl, rfl, rfl⟩ dJx4a65c_grow_d5877_10
theorem dJx4a65c_add_72be8_0 : decode cJx4a65c_add_72be8 0 = .ok (.iload_n 3, 1) := by decide +kernel
theorem dJx4a65c_add_72be8_1 : decode cJx4a65c_add_72be8 1 = .ok (.aload_n 2, 1) := by decide +kernel
theorem dJx4a65c_add_72be8_2 : decode cJx4a65c_add_72be8 2 = .ok (.arraylength, 1) := by decide +kernel
theorem dJx4a65c_add_72be8_3 : decode cJx4a65c_add_72be8 3 = .ok (.if_icmp .ne 8, 3) := by decide +kernel
theorem dJx4a65c_add_72be8_6 : decode cJx4a65c_add_72be8 6 = .ok (.aload_n 0, 1) := by decide +kernel
theorem dJx4a65c_add_72be8_7 : decode cJx4a65c_add_72be8 7 = .ok (.invokevirtual 129, 3) := by decide +kernel
theorem dJx4a65c_add_72be8_10 : decode cJx4a65c_add_72be8 10 = .ok (.astore_n 2, 1) := by decide +kernel
theorem dJx4a65c_add_72be8_11 : decode cJx4a65c_add_72be8 11 = .ok (.aload_n 2, 1) := by decide +kernel
theorem dJx4a65c_add_72be8_12 : decode cJx4a65c_add_72be8 12 = .ok (.iload_n 3, 1) := by decide +kernel
theorem dJx4a65c_add_72be8_13 : decode cJx4a65c_add_72be8 13 = .ok (.aload_n 1, 1) := by decide +kernel
theorem dJx4a65c_add_72be8_14 : decode cJx4a65c_add_72be8 14 = .ok (.aastore, 1) := by decide +kernel
theorem dJx4a65c_add_72be8_15 : decode cJx4a65c_add_72be8 15 = .ok (.aload_n 0, 1) := by decide +kernel
theorem dJx4a65c_add_72be8_16 : decode cJx4a65c_add_72be8 16 = .ok (.iload_n 3, 1) := by decide +kernel
theorem dJx4a65c_add_72be8_17 : decode cJx4a65c_add_72be8 17 = .ok (.iconst 1, 1) := by decide +kernel
theorem dJx4a65c_add_72be8_18 : decode cJx4a65c_add_72be8 18 = .ok (.iadd, 1) := by decide +kernel
theorem dJx4a65c_add_72be8_19 : decode cJx4a65c_add_72be8 19 = .ok (.putfield 48, 3) := by decide +kernel
theorem dJx4a65c_add_72be8_22 : decode cJx4a65c_add_72be8 22 = .ok (.return_, 1) := by decide +kernel
set_option maxRecDepth 100000 in
set_option maxHeartbeats 4000000 in
theorem g_addhA (l : Launch) {D : va_G} {ar : Nat → ClassId} {B : Nat → Prop} {n : Nat} {w : zcW} {o : olP} {ee N sz : Nat} {g : Nat → Option Nat} (he : ee < n) (hwe : w ee = some (.inl (ar 2, N, .inr (.inr (.inr (.inr g)))))) (hsz : sz < N ∧ N ≤ 1000) {q : Nat} (hq : q < n) (mc : Int) (hwq : w q = some (.inr (0, [.int (iz mc), .ref ee, .int (iz ((sz : Nat) : Int))]))) {x xci : Nat} {xvs : List Value} {xr : vw_C} (hx : x < n) (hxw : w x = some (.inr (xci, xvs))) (hxc : vwCl[xci]? = some xr) (hxk : (xr.1, "java/lang/Object") ∈ nwC ∨ xr.1 = "java/lang/Object") (hxq : x ≠ q) (hxe : x ≠ ee) (hqe : q ≠ ee) : zo_M l D ar B o yJx4a65c_add_72be8 cJx4a65c_add_72be8 4 none 5 200 1 60 [.ref q, .ref x, .ref ee, .int (iz ((sz : Nat) : Int))] w n (fun r' w' n' => r' = none ∧ w' = (zc_u (zc_u w ee (.inl (ar 2, N, .inr (.inr (.inr (.inr (fun q => if q = sz then some x else g q))))))) q (.inr (0, [.int (iz mc), .ref ee, .int (iz (((sz : Nat) : Int) + 1))]))) ∧ n' = n) := by
  refine zo_start (own := RJx4a65c) (by decide +kernel) rfl (Nat.le_of_ble_eq_true rfl) ?_
  intro p e s m args below meth c C K O hz hr hlk hnam
  refine hv_iload_n C 3 3 dJx4a65c_add_72be8_0 rfl rfl ?_
  refine hv_aload_n C 2 2 dJx4a65c_add_72be8_1 rfl rfl ?_
  refine zc_alen C K 2 hwe rfl rfl dJx4a65c_add_72be8_2 ?_
  refine hv_icmp_ne C 11 dJx4a65c_add_72be8_3 (by decide) (by omega) (by omega) (fun _ => ?_) (fun h => absurd h (by omega))
  refine hv_aload_n C 2 2 dJx4a65c_add_72be8_11 rfl rfl ?_
  refine hv_iload_n C 3 3 dJx4a65c_add_72be8_12 rfl rfl ?_
  refine hv_aload_n C 1 1 dJx4a65c_add_72be8_13 rfl rfl ?_
  refine zc_aast C K (w2 := (zc_u w ee (.inl (ar 2, N, .inr (.inr (.inr (.inr (fun q => if q = sz then some x else g q)))))))) (f := g) 2 sz hwe rfl hxw hxc hxk rfl (by omega) (by omega) (by omega) dJx4a65c_add_72be8_14 ?_
  refine hv_aload_n C 0 0 dJx4a65c_add_72be8_15 rfl rfl ?_
  refine hv_iload_n C 3 3 dJx4a65c_add_72be8_16 rfl rfl ?_
  refine hv_iconst C dJx4a65c_add_72be8_17 ?_
  refine hv_iadd C dJx4a65c_add_72be8_18 ?_
  refine zc_put C K (w2 := (zc_u (zc_u w ee (.inl (ar 2, N, .inr (.inr (.inr (.inr (fun q => if q = sz then some x else g q))))))) q (.inr (0, [.int (iz mc), .ref ee, .int (iz (((sz : Nat) : Int) + 1))])))) 2 rfl hu_0 tyJx4a65c tyJx4a65c_ok nmJx4a65c (by decide) (zg_ne (by omega) hwq) rfl fl_Jx4a65c_48 rfl rfl (ty := tyJx4a65c 2) (by decide +kernel) rfl rfl (Nat.le_of_ble_eq_true rfl) dJx4a65c_add_72be8_19 ?_
  refine hv_widen 1 60 (by omega) (by omega) ?_
  exact zc_vret C hr hlk ⟨rfl, rfl, rfl⟩ dJx4a65c_add_72be8_22
theorem ck_Jx4a65c_129 : zcV RJx4a65c RJx4a65c yJx4a65c_grow_d5877 cJx4a65c_grow_d5877 1 (some (.array (.object "java/lang/Object"))) 129 0 := ⟨hk_tq2 145 (by decide +kernel) (by decide +kernel), hk_tq2 142 (by decide +kernel) (by decide +kernel), hk_tq1 5 (by decide +kernel) (by decide +kernel), ⟨by decide, by decide, by decide +kernel⟩, hk_tq2 144 (by decide +kernel) (by decide +kernel), hk_s 2 (by decide +kernel) (by decide +kernel)⟩
set_option maxRecDepth 100000 in
set_option maxHeartbeats 4000000 in
theorem g_addhB (l : Launch) {D : va_G} {ar : Nat → ClassId} {B : Nat → Prop} {n : Nat} {w : zcW} {o : olP} {q : Nat} (hq : q < n) (mc : Int) (hwq : w q = some (.inr (0, [.int (iz mc), .ref o.2.1, .int (iz ((0 : Nat) : Int))]))) {x xci : Nat} {xvs : List Value} {xr : vw_C} (hx : x < n) (hxw : w x = some (.inr (xci, xvs))) (hxc : vwCl[xci]? = some xr) (hxk : (xr.1, "java/lang/Object") ∈ nwC ∨ xr.1 = "java/lang/Object") (hxq : x ≠ q) : zo_M l D ar B o yJx4a65c_add_72be8 cJx4a65c_add_72be8 4 none 5 200 1 60 [.ref q, .ref x, .ref o.2.1, .int (iz ((0 : Nat) : Int))] w n (fun r' w' n' => r' = none ∧ w' = (zc_u (zc_u w n (.inl (ar 2, 10, .inr (.inr (.inr (.inr (fun q => if q = 0 then some x else (fun _ => none) q))))))) q (.inr (0, [.int (iz mc), .ref n, .int (iz (((0 : Nat) : Int) + 1))]))) ∧ n' = n + 1) := by
  refine zo_start (own := RJx4a65c) (by decide +kernel) rfl (Nat.le_of_ble_eq_true rfl) ?_
  intro p e s m args below meth c C K O hz hr hlk hnam
  refine hv_iload_n C 3 3 dJx4a65c_add_72be8_0 rfl rfl ?_
  refine hv_aload_n C 2 2 dJx4a65c_add_72be8_1 rfl rfl ?_
  refine zo_tlen C O.2.1 (by omega) (by decide) dJx4a65c_add_72be8_2 ?_
  refine hv_icmp_ne C 11 dJx4a65c_add_72be8_3 (by decide) (by omega) (by omega) (fun h => absurd h (by omega)) (fun _ => ?_)
  refine hv_aload_n C 0 0 dJx4a65c_add_72be8_6 rfl rfl ?_
  refine zgo_callV [] [] C K O hwq rfl (g_growB0 l hq mc hwq) ck_Jx4a65c_129 ⟨by dsimp only; omega, by dsimp only; omega⟩ ⟨by dsimp only; omega, by dsimp only; omega⟩ rfl (Nat.le_of_ble_eq_true rfl) dJx4a65c_add_72be8_7 (r := some (.ref n)) (w2 := (zc_u (zc_u w n (.inl (ar 2, 10, .inr (.inr (.inr (.inr (fun _ => none))))))) q (.inr (0, [.int (iz mc), .ref n, .int (iz ((0 : Nat) : Int))])))) (n2 := n + 1) (fun r' w' n' h => ⟨h.1, h.2.1.trans rfl, h.2.2⟩) ?_
  refine hv_astore_n C 2 [(2, .ref n), (0, .ref q), (1, .ref x), (3, .int (iz ((0 : Nat) : Int)))] dJx4a65c_add_72be8_10 rfl (by decide) rfl ?_
  refine hv_aload_n C 2 0 dJx4a65c_add_72be8_11 rfl rfl ?_
  refine hv_iload_n C 3 3 dJx4a65c_add_72be8_12 rfl rfl ?_
  refine hv_aload_n C 1 2 dJx4a65c_add_72be8_13 rfl rfl ?_
  refine zc_aast C K (w2 := (zc_u (zc_u w n (.inl (ar 2, 10, .inr (.inr (.inr (.inr (fun q => if q = 0 then some x else (fun _ => none) q))))))) q (.inr (0, [.int (iz mc), .ref n, .int (iz ((0 : Nat) : Int))])))) (f := (fun _ => none)) 2 0 (zg_ne (by omega) zg_at) rfl (zg_ne (by omega) (zg_ne (by omega) hxw)) hxc hxk (by rw [zg_uc (a := q) (b := n) (by omega), zg_uu] <;> rfl) (by omega) (by omega) (by omega) dJx4a65c_add_72be8_14 ?_
  refine hv_aload_n C 0 1 dJx4a65c_add_72be8_15 rfl rfl ?_
  refine hv_iload_n C 3 3 dJx4a65c_add_72be8_16 rfl rfl ?_
  refine hv_iconst C dJx4a65c_add_72be8_17 ?_
  refine hv_iadd C dJx4a65c_add_72be8_18 ?_
  refine zc_put C K (w2 := (zc_u (zc_u w n (.inl (ar 2, 10, .inr (.inr (.inr (.inr (fun q => if q = 0 then some x else (fun _ => none) q))))))) q (.inr (0, [.int (iz mc), .ref n, .int (iz (((0 : Nat) : Int) + 1))])))) 2 rfl hu_0 tyJx4a65c tyJx4a65c_ok nmJx4a65c (by decide) zg_at (by rw [zg_uu] <;> rfl) fl_Jx4a65c_48 rfl rfl (ty := tyJx4a65c 2) (by decide +kernel) rfl rfl (Nat.le_of_ble_eq_true rfl) dJx4a65c_add_72be8_19 ?_
  refine hv_widen 1 60 (by omega) (by omega) ?_
  exact zc_vret C hr hlk ⟨rfl, rfl, rfl⟩ dJx4a65c_add_72be8_22
set_option maxRecDepth 100000 in
set_option maxHeartbeats 4000000 in
theorem g_addhC (l : Launch) {D : va_G} {ar : Nat → ClassId} {B : Nat → Prop} {n : Nat} {w : zcW} {o : olP} {ee N : Nat} {g : Nat → Option Nat} (he : ee < n) (hwe : w ee = some (.inl (ar 2, N, .inr (.inr (.inr (.inr g)))))) (hel : ∀ i, i < N → ∀ y, g i = some y → okE w y) (hwn : w n = none) {q : Nat} (hq : q < n) (mc : Int) (hwq : w q = some (.inr (0, [.int (iz mc), .ref ee, .int (iz ((N : Nat) : Int))]))) (hne : ee ≠ o.2.1) (hqe : q ≠ ee) (NL : Nat) (hNL : (NL : Int) = (N : Int) + (if 1 < (N : Int) / 2 ^ 1 then (N : Int) / 2 ^ 1 else 1)) (hN : 0 < N ∧ N ≤ 39) {x xci : Nat} {xvs : List Value} {xr : vw_C} (hx : x < n) (hxw : w x = some (.inr (xci, xvs))) (hxc : vwCl[xci]? = some xr) (hxk : (xr.1, "java/lang/Object") ∈ nwC ∨ xr.1 = "java/lang/Object") (hxq : x ≠ q) (hxe : x ≠ ee) : zo_M l D ar B o yJx4a65c_add_72be8 cJx4a65c_add_72be8 4 none 5 200 1 60 [.ref q, .ref x, .ref ee, .int (iz ((N : Nat) : Int))] w n (fun r' w' n' => r' = none ∧ w' = (zc_u (zc_u w n (.inl (ar 2, NL, .inr (.inr (.inr (.inr (fun q => if q = N then some x else (fun q => if q < N then g q else (fun _ => none) q) q))))))) q (.inr (0, [.int (iz mc), .ref n, .int (iz (((N : Nat) : Int) + 1))]))) ∧ n' = n + 1) := by
  refine zo_start (own := RJx4a65c) (by decide +kernel) rfl (Nat.le_of_ble_eq_true rfl) ?_
  intro p e s m args below meth c C K O hz hr hlk hnam
  have hNL3 : N < NL ∧ NL ≤ 60 := by have z : (NL : Int) ≤ 60 ∧ (N : Int) < NL := (by rw [hNL]; split <;> omega); omega
  refine hv_iload_n C 3 3 dJx4a65c_add_72be8_0 rfl rfl ?_
  refine hv_aload_n C 2 2 dJx4a65c_add_72be8_1 rfl rfl ?_
  refine zc_alen C K 2 hwe rfl rfl dJx4a65c_add_72be8_2 ?_
  refine hv_icmp_ne C 11 dJx4a65c_add_72be8_3 (by decide) (by omega) (by omega) (fun h => absurd h (by omega)) (fun _ => ?_)
  refine hv_aload_n C 0 0 dJx4a65c_add_72be8_6 rfl rfl ?_
  refine zgo_callV [] [] C K O hwq rfl (g_growC0 l he hwe hel hwn hq mc hwq hne hqe NL hNL hN) ck_Jx4a65c_129 ⟨by dsimp only; omega, by dsimp only; omega⟩ ⟨by dsimp only; omega, by dsimp only; omega⟩ rfl (Nat.le_of_ble_eq_true rfl) dJx4a65c_add_72be8_7 (r := some (.ref n)) (w2 := (zc_u (zc_u w n (.inl (ar 2, NL, .inr (.inr (.inr (.inr (fun q => if q < N then g q else (fun _ => none) q))))))) q (.inr (0, [.int (iz mc), .ref n, .int (iz ((N : Nat) : Int))])))) (n2 := n + 1) (fun r' w' n' h => ⟨h.1, h.2.1.trans rfl, h.2.2⟩) ?_
  refine hv_astore_n C 2 [(2, .ref n), (0, .ref q), (1, .ref x), (3, .int (iz ((N : Nat) : Int)))] dJx4a65c_add_72be8_10 rfl (by decide) rfl ?_
  refine hv_aload_n C 2 0 dJx4a65c_add_72be8_11 rfl rfl ?_
  refine hv_iload_n C 3 3 dJx4a65c_add_72be8_12 rfl rfl ?_
  refine hv_aload_n C 1 2 dJx4a65c_add_72be8_13 rfl rfl ?_
  refine zc_aast C K (w2 := (zc_u (zc_u w n (.inl (ar 2, NL, .inr (.inr (.inr (.inr (fun q => if q = N then some x else (fun q => if q < N then g q else (fun _ => none) q) q))))))) q (.inr (0, [.int (iz mc), .ref n, .int (iz ((N : Nat) : Int))])))) (f := (fun q => if q < N then g q else (fun _ => none) q)) 2 N (zg_ne (by omega) zg_at) rfl (zg_ne (by omega) (zg_ne (by omega) hxw)) hxc hxk (by rw [zg_uc (a := q) (b := n) (by omega), zg_uu] <;> rfl) (by omega) (by omega) (by omega) dJx4a65c_add_72be8_14 ?_
  refine hv_aload_n C 0 1 dJx4a65c_add_72be8_15 rfl rfl ?_
  refine hv_iload_n C 3 3 dJx4a65c_add_72be8_16 rfl rfl ?_
  refine hv_iconst C dJx4a65c_add_72be8_17 ?_
  refine hv_iadd C dJx4a65c_add_72be8_18 ?_
  refine zc_put C K (w2 := (zc_u (zc_u w n (.inl (ar 2, NL, .inr (.inr (.inr (.inr (fun q => if q = N then some x else (fun q => if q < N then g q else (fun _ => none) q) q))))))) q (.inr (0, [.int (iz mc), .ref n, .int (iz (((N : Nat) : Int) + 1))])))) 2 rfl hu_0 tyJx4a65c tyJx4a65c_ok nmJx4a65c (by decide) zg_at (by rw [zg_uu] <;> rfl) fl_Jx4a65c_48 rfl rfl (ty := tyJx4a65c 2) (by decide +kernel) rfl rfl (Nat.le_of_ble_eq_true rfl) dJx4a65c_add_72be8_19 ?_
  refine hv_widen 1 60 (by omega) (by omega) ?_
  exact zc_vret C hr hlk ⟨rfl, rfl, rfl⟩ dJx4a65c_add_72be8_22
