/-! image once more: two places of locals -/
section IMT
variable {p : Program} {l : Launch} {e : Env} {s : State} {m : MethodId} {args : Array Value} {below : List Frame} {meth : Method} {c : Code} {D : va_G} {ar : Nat → ClassId} {B : Nat → Prop} {b n nn : Nat} {w0 : zcW} {o : olP} {σ τ : Nat → Nat → Int} {Ow : Nat → Nat} {Po : Option Value → zcW → Nat → Prop}
set_option maxRecDepth 100000 in
set_option maxHeartbeats 4000000 in
theorem im_take2 {q x : Nat} {T : Nat → Nat → Int} (C : CallFix p m c cX11_image 2 s args hk_tb RX11) (K : clK D ar s) (O : olk B o s) (hr : meth.sig.returnType = some .boolean) (hlk : meth.locks = false) (q3 : q < 3) (hM : Ms9 σ) (hT : PT9 ar b w0 n o.2.1 Ow σ τ q x T) (hB : ∀ a, B a → b ≤ a) (hPo : ∀ (w9 : zcW) (n9 : Nat) (Ow9 : Nat → Nat), n ≤ n9 → CI9 ar b w9 n9 o.2.1 Ow9 (sA (u2 σ 2 q (xb true)) 1 (im (σ 1) q 2260)) τ → Po (some (.int (iz (xb true)))) (cw ar b τ w9) n9) : hvV p l e { frames := 9, cells := 130, slots := 7523, locals := 340 } s m args below meth c 2 B 22 1043 (MQ below (zc_Q D B Po) args s 130 7523 B) (zc_I D B (cw ar b τ w0) n s.heap) 33 [(0, .ref b), (1, .int (iz ((q : Nat) : Int)))] [] := by
  obtain ⟨hH, hI, hfree, ⟨hn, he0⟩, y2, y3, y4⟩ := hT
  refine hv_aload_n C 0 0 dX11_image_33 rfl rfl ?_
  refine zc_get C K (v := .ref (b + 23)) 1 rfl hu_12 (by decide) cw_0 rfl fl_X11_16 rfl dX11_image_34 ?_
  refine hv_iload_n C 1 1 dX11_image_37 rfl rfl ?_
  refine zc_aald C K (f := (fun i => rfv (τ 23 i))) 4 q (cw_at 23 rfl) rfl rfl q3 (by decide) dX11_image_38 ?_
  refine hv_asv (.ref (x + 1)) (by show va_rf (rfv (τ 23 q)) = _; rw [y2, rfv_n]; rfl) ?_
  refine hv_aload_n C 0 0 dX11_image_39 rfl rfl ?_
  refine zc_get C K (v := .ref (b + 1)) 0 rfl hu_12 (by decide) cw_0 rfl fl_X11_10 rfl dX11_image_40 ?_
  obtain ⟨P, hP⟩ := rl_P hH.1
  refine fun H locs ls z1 z2 z3 => ?_
  have hlow := cw_h z1.2.2.1 hB
  refine (?_ : hvV p l e { frames := 9, cells := 130, slots := 7523, locals := 340 } s m args below meth c 2 B 22 1043 _ (zc_I D B (cw ar b τ w0) n s.heap) 43 [(0, .ref b), (1, .int (iz ((q : Nat) : Int)))] [.ref (b + 1), .ref (x + 1)]) H locs ls z1 z2 z3
  have hx := y3.2.1
  have hxn := y3.1
  have wx : cw ar b τ w0 (x + 1) = gcell ar x (T 1) 1 := by rw [cw_nf (Or.inr (Or.inr (by omega)))]; exact y3.2.2.1 1 (by decide)
  refine zo_callV [.ref (b + 1)] [] C K O wx rfl (g_take l (x := x) (y := b) (T := T) (θ := τ) (A := σ 1) hM.2.1.1 rfl hfree hlow ⟨by omega, by omega, by omega⟩ he0 ⟨by omega, Nat.le_refl _⟩ (by omega) (fun j hj => ?_) (fun j hj => ?_) (y3.blk q3) (Or.inl rfl) y4 (by omega) hH.2.1 (by decide) (by omega) hH.1 hH.2.2.1 hB hP) ck_X11_299 (by decide) (by decide) rfl (Nat.le_of_ble_eq_true rfl) dX11_image_43 ?_
  · rw [cw_nf (Or.inr (Or.inr (by omega)))]; exact y3.2.2.1 j hj
  · rcases (by omega : j = 1 ∨ j = 2 ∨ j = 3 ∨ j = 4 ∨ j = 5 ∨ j = 6 ∨ j = 7 ∨ j = 8 ∨ j = 9 ∨ j = 10 ∨ j = 11 ∨ j = 12 ∨ j = 13 ∨ j = 14 ∨ j = 15 ∨ j = 16 ∨ j = 17 ∨ j = 18) with rfl | rfl | rfl | rfl | rfl | rfl | rfl | rfl | rfl | rfl | rfl | rfl | rfl | rfl | rfl | rfl | rfl | rfl <;> exact cw_at _ rfl
  rintro r' w' n' ⟨h1, w1, E, hS, hK⟩
  subst h1
  obtain ⟨f1, Ow9, f2⟩ := ci_image q3 hM hH hI hfree hn he0 hlow y2 y3 y4 rfl hP hS hK
  refine hv_iconst C dX11_image_46 ?_
  refine zc_zret C hr hlk (v := true) rfl ?_ dX11_image_47
  rw [← f1]
  exact hPo w' n' Ow9 hS.2.2.1 f2
end IMT
set_option maxRecDepth 100000 in
set_option maxHeartbeats 4000000 in
theorem s_X11_image2 (l : Launch) {D : va_G} {ar : Nat → ClassId} {B : Nat → Prop} {b n : Nat} {w0 : zcW} {o : olP} (σ τ : Nat → Nat → Int) (k : Int) (Ow : Nat → Nat) (hM : Ms9 σ) (hC : CI9 ar b w0 n o.2.1 Ow σ τ) (hB : ∀ q, B q → b ≤ q) (r_k : inI k) : zo_M l D ar B o yX11_image cX11_image 2 (some .boolean) 9 340 130 7523 [.ref b, .int (iz k)] (cw ar b τ w0) n (fun r' w' n' => r' = some (.int (iz (xb (decide (0 ≤ k ∧ k ≤ 2))))) ∧ n ≤ n' ∧ ∃ (τ9 : Nat → Nat → Int) (w9 : zcW) (Ow9 : Nat → Nat), w' = cw ar b τ9 w9 ∧ CI9 ar b w9 n' o.2.1 Ow9 (if 0 ≤ k ∧ k ≤ 2 then sA (u2 σ 2 k.toNat (xb true)) 1 (im (σ 1) k.toNat 2260) else σ) τ9) := by
  refine zo_start (own := RX11) (by decide +kernel) rfl (Nat.le_of_ble_eq_true rfl) ?_
  intro p e s m args below meth c C K O hz hr hlk hnam
  refine hv_iload_n C 1 1 dX11_image_0 rfl rfl ?_
  refine hv_iconst C dX11_image_1 ?_
  refine hv_iconst C dX11_image_2 ?_
  refine zt_callS [.int (iz k), .int (iz 0), .int (iz 2)] [] C K (k_X11_within l τ k 0 2 r_k (by decide) (by decide)) ck_X11_62 (by decide) ⟨Nat.zero_le _, Nat.zero_le _⟩ rfl (Nat.le_of_ble_eq_true rfl) dX11_image_3 ?_
  refine hv_as (xb (decide (0 ≤ k ∧ k ≤ 2))) rfl ?_
  refine hv_dif_ne C 11 dX11_image_6 (by decide) (fun h6 => ?_) (fun h6 => ?_)
  · skip
    obtain ⟨q, rfl⟩ : ∃ q : Nat, k = (q : Int) := ⟨k.toNat, by omega⟩
    have q3 : q < 3 := by omega
    have hPo : ∀ (n1 : Nat), n ≤ n1 → ∀ (τ9 : Nat → Nat → Int) (w9 : zcW) (n9 : Nat) (Ow9 : Nat → Nat), n1 ≤ n9 → CI9 ar b w9 n9 o.2.1 Ow9 (sA (u2 σ 2 q (xb true)) 1 (im (σ 1) q 2260)) τ9 → (fun (r' : Option Value) (w' : zcW) (n' : Nat) => r' = some (.int (iz (xb (decide (0 ≤ ((q : Nat) : Int) ∧ ((q : Nat) : Int) ≤ 2))))) ∧ n ≤ n' ∧ ∃ (τ9 : Nat → Nat → Int) (w9 : zcW) (Ow9 : Nat → Nat), w' = cw ar b τ9 w9 ∧ CI9 ar b w9 n' o.2.1 Ow9 (if 0 ≤ ((q : Nat) : Int) ∧ ((q : Nat) : Int) ≤ 2 then sA (u2 σ 2 ((q : Nat) : Int).toNat (xb true)) 1 (im (σ 1) ((q : Nat) : Int).toNat 2260) else σ) τ9) (some (.int (iz (xb true)))) (cw ar b τ9 w9) n9 := by
      intro n1 hn1 τ9 w9 n9 Ow9 h1 h2
      refine ⟨by rw [decide_eq_true h6], by omega, τ9, w9, Ow9, rfl, ?_⟩
      rw [if_pos h6, Int.toNat_natCast]
      exact h2
    refine hv_aload_n C 0 0 dX11_image_11 rfl rfl ?_
    refine zc_get C K (v := .ref (b + 23)) 1 rfl hu_12 (by decide) cw_0 rfl fl_X11_16 rfl dX11_image_12 ?_
    refine hv_iload_n C 1 1 dX11_image_15 rfl rfl ?_
    refine zc_aald C K (f := (fun i => rfv (τ 23 i))) 4 q (cw_at 23 rfl) rfl rfl q3 (by decide) dX11_image_16 ?_
    rcases hC.2.1 q q3 with ⟨y1, y2⟩ | ⟨y1, x, T, y2, y3, y4⟩
    · refine hv_asv .null (by show va_rf (rfv (τ 23 q)) = _; unfold rfv; rw [if_pos y1]; rfl) ?_
      refine hv_nnN C dX11_image_17 ?_
      refine hv_aload_n C 0 0 dX11_image_20 rfl rfl ?_
      refine zc_get C K (v := .ref (b + 23)) 1 rfl hu_12 (by decide) cw_0 rfl fl_X11_16 rfl dX11_image_21 ?_
      refine hv_iload_n C 1 1 dX11_image_24 rfl rfl ?_
      refine zg_new (ci := 9) C K [.int (iz 0), .null, .null, .null, .null, .null, .null, .null, .int (iz 0), .int (iz 0), .int (iz 0), .null, .int (iz 0), .int (iz 0), .int (iz 0), .null, .int (iz 0), .null, .null, .null] rfl hu_9 tyX8 tyX8_ok cl_X11_7 is_X8 it_X8 (df_X8) (by decide) dX11_image_25 (n2 := (n + 1)) rfl ?_
      refine hv_dup C dX11_image_28 rfl ?_
      have hn := hC.2.2.2.1
      refine zgo_callI [] [.ref n, .int (iz ((q : Nat) : Int)), .ref (b + 23)] C K O (g_X8_init l (by omega) zg_at) ci_X11_9 (by decide) (by decide) rfl (Nat.le_of_ble_eq_true rfl) dX11_image_29 (w2 := newT ar o.2.1 (cw ar b τ w0) n) (n2 := n + 22) (fun r' w' n' h => ⟨h.1, h.2.1.trans (by unfold newT; rfl), h.2.2.trans rfl⟩) ?_
      have h23 : newT ar o.2.1 (cw ar b τ w0) n (b + 23) = some (.inl (ar 4, 3, .inr (.inr (.inr (.inr (fun i => rfv (τ 23 i))))))) := by rw [newT_o (Or.inl (by omega))]; exact cw_at 23 rfl
      have hnn : ∃ vs, newT ar o.2.1 (cw ar b τ w0) n n = some (.inr (9, vs)) := by
        obtain ⟨x, rfl⟩ : ∃ x, n = x + 1 := ⟨n - 1, by omega⟩
        exact ⟨_, newT_c x (j := 1) (by decide)⟩
      obtain ⟨vs, hvs⟩ := hnn
      obtain ⟨w9, hw9⟩ : ∃ w9 : zcW, w9 = zc_u (newT ar o.2.1 (cw ar b τ w0) n) (b + 23) (.inl (ar 4, 3, .inr (.inr (.inr (.inr (fun i => if i = q then some n else rfv (τ 23 i))))))) := ⟨_, rfl⟩
      refine zc_aast C K (w2 := w9) (f := (fun i => rfv (τ 23 i))) 4 q h23 rfl hvs rfl (Or.inr rfl) hw9.symm rfl q3 (by decide) dX11_image_32 ?_
      obtain ⟨τ9, Ow9, x, T, f1, f2, f3⟩ := pt_new q3 hC hw9
      rw [f1]
      exact im_take2 C K O hr hlk q3 hM f3 hB (hPo (n + 22) (by omega) τ9)
    · refine hv_asv (.ref (x + 1)) (by show va_rf (rfv (τ 23 q)) = _; rw [y2, rfv_n]; rfl) ?_
      refine hv_nn C 33 dX11_image_17 (by decide) ?_
      refine hv_widen 22 1043 (by decide) (by decide) ?_
      exact im_take2 C K O hr hlk q3 hM (pt_old hC y2 y3 y4) hB (hPo n (Nat.le_refl _) τ)
  · skip
    refine hv_iconst C dX11_image_9 ?_
    refine hv_widen 130 7523 (by decide) (by decide) ?_
    refine zc_zret C hr hlk (v := decide (0 ≤ k ∧ k ≤ 2)) (xb_f (decide_eq_false h6)).symm ⟨rfl, Nat.le_refl _, τ, w0, Ow, rfl, ?_⟩ dX11_image_10
    rw [if_neg h6]; exact hC
section OPS
variable {l : Launch} {D : va_G} {ar : Nat → ClassId} {B : Nat → Prop} {o : olP} {w : zcW} {n b : Nat} {σ : Nat → Nat → Int}
theorem lop_image2 (k : Int) (r_k : inI k) (hB : ∀ q, B q → b ≤ q) (hL : LS9 ar b o.2.1 σ w n) : op9 l D ar B b o yX11_image cX11_image 2 yX12_image cX12_image 3 .boolean [.int (iz k)] σ w n := by
  obtain ⟨τ, w0, Ow, rfl, hC, hM, hT⟩ := hL
  refine oq_o (s_X11_image2 l σ τ k Ow hM hC hB r_k) (k_image l σ k hM.1 hM.2.1.1 r_k) ⟨by decide, by decide, by decide, by decide, by decide, by decide⟩ (fun r' w' n' z => ?_)
  obtain ⟨z1, z2, τ9, w9, Ow9, z3, z4⟩ := z
  refine ⟨z1, τ9, w9, Ow9, z3, z4, ?_, ?_⟩
  · by_cases ok : 0 ≤ k ∧ k ≤ 2
    · rw [if_pos ok]; exact ms_image (by omega) hM
    · rw [if_neg ok]; exact hM
  · by_cases ok : 0 ≤ k ∧ k ≤ 2
    · rw [if_pos ok]; exact mt_image (by omega) hT hM
    · rw [if_neg ok]; exact hT
end OPS
