theorem dX10_plugs_0 : decode cX10_plugs 0 = .ok (.iconst 0, 1) := by decide +kernel
theorem dX10_plugs_1 : decode cX10_plugs 1 = .ok (.aload_n 0, 1) := by decide +kernel
theorem dX10_plugs_2 : decode cX10_plugs 2 = .ok (.getfield 9, 3) := by decide +kernel
theorem dX10_plugs_5 : decode cX10_plugs 5 = .ok (.iload_n 1, 1) := by decide +kernel
theorem dX10_plugs_6 : decode cX10_plugs 6 = .ok (.iaload, 1) := by decide +kernel
theorem dX10_plugs_7 : decode cX10_plugs 7 = .ok (.invokestatic 81, 3) := by decide +kernel
theorem dX10_plugs_10 : decode cX10_plugs 10 = .ok (.ireturn, 1) := by decide +kernel
theorem fl_X10_9 : Cond.fieldLink RX10 9 "HookUps$Wiring" (TX10 0).2.1 (TX10 0).2.2.1 ∈ hk_tb := hk_tq1 214 (by decide +kernel) (by decide +kernel)
theorem ck_X10_81 : zcS RX10 yJ9_max_7cf53 cJ9_max_7cf53 2 (some .int) 81 2 := ⟨hk_tq2 155 (by decide +kernel) (by decide +kernel), hk_tq4 213 (by decide +kernel) (by decide +kernel), hk_tq1 14 (by decide +kernel) (by decide +kernel), ⟨by decide, by decide, by decide +kernel⟩, hk_tq2 154 (by decide +kernel) (by decide +kernel)⟩
set_option maxRecDepth 100000 in
set_option maxHeartbeats 4000000 in
theorem k_X10_plugs_wa (l : Launch) {D : va_G} {ar : Nat → ClassId} {B : Nat → Prop} {b n : Nat} {w0 : zcW}  (τ : Nat → Nat → Int) (h : Nat) (hh9 : h < 24) (hst : ∀ q, q < 24 → -1 ≤ τ 25 q ∧ τ 25 q ≤ 4095) : zt_M l D ar B b w0 n yX10_plugs cX10_plugs 2 (some .int) 1 21 [.ref (b + 24), .int (iz ((h : Nat) : Int))] τ (some (.int (iz (if τ 25 h < 0 then 0 else τ 25 h)))) (τ) := by
  refine zc_start (own := RX10) (by decide +kernel) rfl (Nat.le_of_ble_eq_true rfl) ?_
  intro p e s m args below meth c C K hr hlk hnam
  have zq := hst h hh9
  refine hv_iconst C dX10_plugs_0 ?_
  refine hv_aload_n C 0 0 dX10_plugs_1 rfl rfl ?_
  refine zc_get C K (v := .ref (b + 25)) 0 rfl hu_11 (by decide) (cw_at 24 rfl) rfl fl_X10_9 rfl dX10_plugs_2 ?_
  refine hv_iload_n C 1 1 dX10_plugs_5 rfl rfl ?_
  refine zc_iald C K (f := (τ 25)) h (cw_at 25 rfl) (by omega) (by omega) (by decide) dX10_plugs_6 ?_
  refine hv_as (τ 25 h) rfl ?_
  refine zt_callS [.int (iz 0), .int (iz (τ 25 h))] [] C K (k_J9_max_7cf53 l  τ 0 (τ 25 h) (by omega) (by omega)) ck_X10_81 (by decide) ⟨Nat.zero_le _, Nat.zero_le _⟩ rfl (Nat.le_of_ble_eq_true rfl) dX10_plugs_7 ?_
  refine hv_as ((if 0 < (τ 25 h) then (τ 25 h) else 0)) rfl ?_
  refine hv_nm (fun x1 ex1 => ?_)
  exact zt_iret C hr hlk (by subst_vars; split <;> split <;> omega) rfl dX10_plugs_10
set_option maxRecDepth 100000 in
set_option maxHeartbeats 4000000 in
theorem k_X10_plugs_wb (l : Launch) {D : va_G} {ar : Nat → ClassId} {B : Nat → Prop} {b n : Nat} {w0 : zcW}  (τ : Nat → Nat → Int) (h : Nat) (hh9 : h < 24) (hst : ∀ q, q < 24 → -1 ≤ τ 31 q ∧ τ 31 q ≤ 4095) : zt_M l D ar B b w0 n yX10_plugs cX10_plugs 2 (some .int) 1 21 [.ref (b + 30), .int (iz ((h : Nat) : Int))] τ (some (.int (iz (if τ 31 h < 0 then 0 else τ 31 h)))) (τ) := by
  refine zc_start (own := RX10) (by decide +kernel) rfl (Nat.le_of_ble_eq_true rfl) ?_
  intro p e s m args below meth c C K hr hlk hnam
  have zq := hst h hh9
  refine hv_iconst C dX10_plugs_0 ?_
  refine hv_aload_n C 0 0 dX10_plugs_1 rfl rfl ?_
  refine zc_get C K (v := .ref (b + 31)) 0 rfl hu_11 (by decide) (cw_at 30 rfl) rfl fl_X10_9 rfl dX10_plugs_2 ?_
  refine hv_iload_n C 1 1 dX10_plugs_5 rfl rfl ?_
  refine zc_iald C K (f := (τ 31)) h (cw_at 31 rfl) (by omega) (by omega) (by decide) dX10_plugs_6 ?_
  refine hv_as (τ 31 h) rfl ?_
  refine zt_callS [.int (iz 0), .int (iz (τ 31 h))] [] C K (k_J9_max_7cf53 l  τ 0 (τ 31 h) (by omega) (by omega)) ck_X10_81 (by decide) ⟨Nat.zero_le _, Nat.zero_le _⟩ rfl (Nat.le_of_ble_eq_true rfl) dX10_plugs_7 ?_
  refine hv_as ((if 0 < (τ 31 h) then (τ 31 h) else 0)) rfl ?_
  refine hv_nm (fun x1 ex1 => ?_)
  exact zt_iret C hr hlk (by subst_vars; split <;> split <;> omega) rfl dX10_plugs_10
