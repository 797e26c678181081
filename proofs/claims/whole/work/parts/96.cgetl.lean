/-! a list's size and items, over any picture -/
section GLS
variable (l : Launch) {D : va_G} {ar : Nat → ClassId} {B : Nat → Prop} {n : Nat} {w : zcW}
set_option maxRecDepth 100000 in
theorem g_check3 (i z : Int) (r_i : inI i) (r_z : inI z) (hb : 0 ≤ i ∧ i < z) : zc_M l D ar B yJ3_checkIndex_8e157 cJ3_checkIndex_8e157 3 (some .int) 0 0 0 0 [.int (iz i), .int (iz z), .null] w n (fun r' w' n' => r' = some (.int (iz i)) ∧ w' = w ∧ n' = n) := by
  refine zc_start (own := RJ3) (by decide +kernel) rfl (Nat.le_of_ble_eq_true rfl) ?_
  intro p e s m args below meth c C K hr hlk hnam
  refine hv_iload_n C 0 0 dJ3_checkIndex_8e157_0 rfl rfl ?_
  refine hv_if_lt C 9 dJ3_checkIndex_8e157_1 (by decide) (by omega) (fun h1 => absurd h1 (by omega)) (fun h1 => ?_)
  refine hv_iload_n C 0 0 dJ3_checkIndex_8e157_4 rfl rfl ?_
  refine hv_iload_n C 1 1 dJ3_checkIndex_8e157_5 rfl rfl ?_
  refine hv_icmp_lt C 16 dJ3_checkIndex_8e157_6 (by decide) (by omega) (by omega) (fun h6 => ?_) (fun h6 => absurd hb.2 (by omega))
  refine hv_iload_n C 0 0 dJ3_checkIndex_8e157_16 rfl rfl ?_
  exact zc_iret C hr hlk ⟨rfl, rfl, rfl⟩ dJ3_checkIndex_8e157_17
set_option maxRecDepth 100000 in
theorem g_check (i z : Int) (r_i : inI i) (r_z : inI z) (hb : 0 ≤ i ∧ i < z) : zc_M l D ar B yJ15_checkIndex_7cf53 cJ15_checkIndex_7cf53 2 (some .int) 1 22 0 0 [.int (iz i), .int (iz z)] w n (fun r' w' n' => r' = some (.int (iz i)) ∧ w' = w ∧ n' = n) := by
  refine zc_start (own := RJ15) (by decide +kernel) rfl (Nat.le_of_ble_eq_true rfl) ?_
  intro p e s m args below meth c C K hr hlk hnam
  refine hv_iload_n C 0 0 dJ15_checkIndex_7cf53_0 rfl rfl ?_
  refine hv_iload_n C 1 1 dJ15_checkIndex_7cf53_1 rfl rfl ?_
  refine hv_aconst C dJ15_checkIndex_7cf53_2 ?_
  refine zg_callS [.int (iz i), .int (iz z), .null] [] C K (g_check3 l i z r_i r_z hb) ck_J15_105 (by decide) (by decide) rfl (Nat.le_of_ble_eq_true rfl) dJ15_checkIndex_7cf53_3 (fun r' w' n' h => h) ?_
  exact zc_iret C hr hlk ⟨rfl, rfl, rfl⟩ dJ15_checkIndex_7cf53_6
set_option maxRecDepth 100000 in
theorem g_size {q : Nat} {mc sz : Int} {v : Value} (hwq : w q = some (.inr (0, [.int (iz mc), v, .int (iz sz)]))) : zc_M l D ar B yJx4a65c_size_8abf5 cJx4a65c_size_8abf5 1 (some .int) 0 0 0 0 [.ref q] w n (fun r' w' n' => r' = some (.int (iz sz)) ∧ w' = w ∧ n' = n) := by
  refine zc_start (own := RJx4a65c) (by decide +kernel) rfl (Nat.le_of_ble_eq_true rfl) ?_
  intro p e s m args below meth c C K hr hlk hnam
  refine hv_aload_n C 0 0 dJx4a65c_size_8abf5_0 rfl rfl ?_
  refine zc_get C K (v := .int (iz sz)) 2 rfl hu_0 (by decide) hwq rfl fl_Jx4a65c_48 rfl dJx4a65c_size_8abf5_1 ?_
  exact zc_iret C hr hlk ⟨rfl, rfl, rfl⟩ dJx4a65c_size_8abf5_4
set_option maxRecDepth 100000 in
theorem g_elem {q ee N p9 : Nat} {mc sz : Int} {f9 : Nat → Option Nat} (i : Nat) (hwq : w q = some (.inr (0, [.int (iz mc), .ref ee, .int (iz sz)]))) (hwe : w ee = some (.inl (ar 2, N, .inr (.inr (.inr (.inr f9)))))) (hi : i < N ∧ N ≤ 60) (hf : f9 i = some p9) : zc_M l D ar B yJx4a65c_elementData_915e3 cJx4a65c_elementData_915e3 2 (some (.object "java/lang/Object")) 0 0 0 0 [.ref q, .int (iz ((i : Nat) : Int))] w n (fun r' w' n' => r' = some (.ref p9) ∧ w' = w ∧ n' = n) := by
  refine zc_start (own := RJx4a65c) (by decide +kernel) rfl (Nat.le_of_ble_eq_true rfl) ?_
  intro p e s m args below meth c C K hr hlk hnam
  refine hv_aload_n C 0 0 dJx4a65c_elementData_915e3_0 rfl rfl ?_
  refine zc_get C K (v := .ref ee) 1 rfl hu_0 (by decide) hwq rfl fl_Jx4a65c_9 rfl dJx4a65c_elementData_915e3_1 ?_
  refine hv_iload_n C 1 1 dJx4a65c_elementData_915e3_4 rfl rfl ?_
  refine zc_aald C K (f := f9) 2 i hwe rfl (by omega) (by omega) (by omega) dJx4a65c_elementData_915e3_5 ?_
  refine hv_asv (.ref p9) (by rw [hf]; rfl) ?_
  exact zc_aret C hr (Or.inl ⟨_, rfl⟩) hlk ⟨rfl, rfl, rfl⟩ dJx4a65c_elementData_915e3_6
set_option maxRecDepth 100000 in
theorem g_getl {q ee N p9 sz : Nat} {mc : Int} {f9 : Nat → Option Nat} (i : Nat) (hwq : w q = some (.inr (0, [.int (iz mc), .ref ee, .int (iz ((sz : Nat) : Int))]))) (hwe : w ee = some (.inl (ar 2, N, .inr (.inr (.inr (.inr f9)))))) (hi : i < sz ∧ sz ≤ N ∧ N ≤ 60) (hf : f9 i = some p9) : zc_M l D ar B yJx4a65c_get_915e3 cJx4a65c_get_915e3 2 (some (.object "java/lang/Object")) 2 43 0 0 [.ref q, .int (iz ((i : Nat) : Int))] w n (fun r' w' n' => r' = some (.ref p9) ∧ w' = w ∧ n' = n) := by
  refine zc_start (own := RJx4a65c) (by decide +kernel) rfl (Nat.le_of_ble_eq_true rfl) ?_
  intro p e s m args below meth c C K hr hlk hnam
  refine hv_iload_n C 1 1 dJx4a65c_get_915e3_0 rfl rfl ?_
  refine hv_aload_n C 0 0 dJx4a65c_get_915e3_1 rfl rfl ?_
  refine zc_get C K (v := .int (iz ((sz : Nat) : Int))) 2 rfl hu_0 (by decide) hwq rfl fl_Jx4a65c_48 rfl dJx4a65c_get_915e3_2 ?_
  refine zg_callS [.int (iz ((i : Nat) : Int)), .int (iz ((sz : Nat) : Int))] [] C K (g_check l ((i : Nat) : Int) ((sz : Nat) : Int) (by omega) (by omega) (by omega)) ck_Jx4a65c_118 (by decide) (by decide) rfl (Nat.le_of_ble_eq_true rfl) dJx4a65c_get_915e3_5 (fun r' w' n' h => h) ?_
  refine hv_pop C dJx4a65c_get_915e3_8 rfl ?_
  refine hv_aload_n C 0 0 dJx4a65c_get_915e3_9 rfl rfl ?_
  refine hv_iload_n C 1 1 dJx4a65c_get_915e3_10 rfl rfl ?_
  refine zg_callV [.int (iz ((i : Nat) : Int))] [] C K hwq rfl (g_elem l i hwq hwe (by omega) hf) ck_Jx4a65c_123 (by decide) (by decide) rfl (Nat.le_of_ble_eq_true rfl) dJx4a65c_get_915e3_11 (fun r' w' n' h => h) ?_
  exact zc_aret C hr (Or.inl ⟨_, rfl⟩) hlk ⟨rfl, rfl, rfl⟩ dJx4a65c_get_915e3_14
end GLS
