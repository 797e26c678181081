theorem ck_X11_299 : zcV RX11 RX8 yX8_takeAll cX8_takeAll 2 none 299 1 := ⟨hk_tq5 97 (by decide +kernel) (by decide +kernel), hk_tq5 94 (by decide +kernel) (by decide +kernel), hk_tq1 2 (by decide +kernel) (by decide +kernel), ⟨by decide, by decide, by decide +kernel⟩, hk_tq5 95 (by decide +kernel) (by decide +kernel), hk_tq5 96 (by decide +kernel) (by decide +kernel)⟩
theorem dX11_again_0 : decode cX11_again 0 = .ok (.iload_n 1, 1) := by decide +kernel
theorem dX11_again_1 : decode cX11_again 1 = .ok (.iconst 0, 1) := by decide +kernel
theorem dX11_again_2 : decode cX11_again 2 = .ok (.iconst 2, 1) := by decide +kernel
theorem dX11_again_3 : decode cX11_again 3 = .ok (.invokestatic 62, 3) := by decide +kernel
theorem dX11_again_6 : decode cX11_again 6 = .ok (.ifCond .eq 12, 3) := by decide +kernel
theorem dX11_again_9 : decode cX11_again 9 = .ok (.aload_n 0, 1) := by decide +kernel
theorem dX11_again_10 : decode cX11_again 10 = .ok (.getfield 16, 3) := by decide +kernel
theorem dX11_again_13 : decode cX11_again 13 = .ok (.iload_n 1, 1) := by decide +kernel
theorem dX11_again_14 : decode cX11_again 14 = .ok (.aaload, 1) := by decide +kernel
theorem dX11_again_15 : decode cX11_again 15 = .ok (.ifnonnull 5, 3) := by decide +kernel
theorem dX11_again_18 : decode cX11_again 18 = .ok (.iconst 0, 1) := by decide +kernel
theorem dX11_again_19 : decode cX11_again 19 = .ok (.ireturn, 1) := by decide +kernel
theorem dX11_again_20 : decode cX11_again 20 = .ok (.aload_n 0, 1) := by decide +kernel
theorem dX11_again_21 : decode cX11_again 21 = .ok (.getfield 10, 3) := by decide +kernel
theorem dX11_again_24 : decode cX11_again 24 = .ok (.aload_n 0, 1) := by decide +kernel
theorem dX11_again_25 : decode cX11_again 25 = .ok (.getfield 16, 3) := by decide +kernel
theorem dX11_again_28 : decode cX11_again 28 = .ok (.iload_n 1, 1) := by decide +kernel
theorem dX11_again_29 : decode cX11_again 29 = .ok (.aaload, 1) := by decide +kernel
theorem dX11_again_30 : decode cX11_again 30 = .ok (.invokevirtual 299, 3) := by decide +kernel
theorem dX11_again_33 : decode cX11_again 33 = .ok (.iconst 1, 1) := by decide +kernel
theorem dX11_again_34 : decode cX11_again 34 = .ok (.ireturn, 1) := by decide +kernel
theorem dX11_image_0 : decode cX11_image 0 = .ok (.iload_n 1, 1) := by decide +kernel
theorem dX11_image_1 : decode cX11_image 1 = .ok (.iconst 0, 1) := by decide +kernel
theorem dX11_image_2 : decode cX11_image 2 = .ok (.iconst 2, 1) := by decide +kernel
theorem dX11_image_3 : decode cX11_image 3 = .ok (.invokestatic 62, 3) := by decide +kernel
theorem dX11_image_6 : decode cX11_image 6 = .ok (.ifCond .ne 5, 3) := by decide +kernel
theorem dX11_image_9 : decode cX11_image 9 = .ok (.iconst 0, 1) := by decide +kernel
theorem dX11_image_10 : decode cX11_image 10 = .ok (.ireturn, 1) := by decide +kernel
theorem dX11_image_11 : decode cX11_image 11 = .ok (.aload_n 0, 1) := by decide +kernel
theorem dX11_image_12 : decode cX11_image 12 = .ok (.getfield 16, 3) := by decide +kernel
theorem dX11_image_15 : decode cX11_image 15 = .ok (.iload_n 1, 1) := by decide +kernel
theorem dX11_image_16 : decode cX11_image 16 = .ok (.aaload, 1) := by decide +kernel
theorem dX11_image_17 : decode cX11_image 17 = .ok (.ifnonnull 16, 3) := by decide +kernel
theorem dX11_image_20 : decode cX11_image 20 = .ok (.aload_n 0, 1) := by decide +kernel
theorem dX11_image_21 : decode cX11_image 21 = .ok (.getfield 16, 3) := by decide +kernel
theorem dX11_image_24 : decode cX11_image 24 = .ok (.iload_n 1, 1) := by decide +kernel
theorem dX11_image_25 : decode cX11_image 25 = .ok (.new 7, 3) := by decide +kernel
theorem dX11_image_28 : decode cX11_image 28 = .ok (.dup, 1) := by decide +kernel
theorem dX11_image_29 : decode cX11_image 29 = .ok (.invokespecial 9, 3) := by decide +kernel
theorem dX11_image_32 : decode cX11_image 32 = .ok (.aastore, 1) := by decide +kernel
theorem dX11_image_33 : decode cX11_image 33 = .ok (.aload_n 0, 1) := by decide +kernel
theorem dX11_image_34 : decode cX11_image 34 = .ok (.getfield 16, 3) := by decide +kernel
theorem dX11_image_37 : decode cX11_image 37 = .ok (.iload_n 1, 1) := by decide +kernel
theorem dX11_image_38 : decode cX11_image 38 = .ok (.aaload, 1) := by decide +kernel
theorem dX11_image_39 : decode cX11_image 39 = .ok (.aload_n 0, 1) := by decide +kernel
theorem dX11_image_40 : decode cX11_image 40 = .ok (.getfield 10, 3) := by decide +kernel
theorem dX11_image_43 : decode cX11_image 43 = .ok (.invokevirtual 299, 3) := by decide +kernel
theorem dX11_image_46 : decode cX11_image 46 = .ok (.iconst 1, 1) := by decide +kernel
theorem dX11_image_47 : decode cX11_image 47 = .ok (.ireturn, 1) := by decide +kernel
/-! again -/
section GTK
variable {ar : Nat → ClassId} {b : Nat} {w0 w : zcW} {n x y : Nat} {A : Nat → Int} {τ0 T θ : Nat → Nat → Int} {Ow : Nat → Nat} {D : va_G} {B : Nat → Prop} {o : olP}
theorem g_take (l : Launch) {offT offS : Nat} {P : Nat → Nat → Nat} (hc : cn A) (hw : w = cw ar b τ0 w0) (hfree : ∀ a, n ≤ a → w0 a = none) (hlow : ∀ (a : Nat) (X : va_E), w0 a = some X → b ≤ a) (hn : b + 47 ≤ n ∧ x + 19 ≤ n ∧ y + 19 ≤ n) (he0 : o.2.1 < b) (hbx : b ≤ x ∧ b ≤ y) (hxy : x + 23 ≤ y ∨ y + 23 ≤ x) (hX : ∀ j, 1 ≤ j ∧ j ≤ 18 → w (x + j) = gcell ar x (T j) j) (hY : ∀ j, 1 ≤ j ∧ j ≤ 18 → w (y + j) = gcell ar y (θ j) j) (hBx : blk9 ar b w0 Ow x T) (hBy : blk9 ar b w0 Ow y θ) (hT : LQ9 ar b w0 n o.2.1 Ow offT T) (hoT : offT % 100 = 0) (hS : LQ9 ar b w0 n o.2.1 Ow offS θ) (hoS : offS % 100 = 0) (hne : offS ≠ offT) (hR : Rel9 ar b w0 A θ) (hby : byt9 θ) (hB : ∀ q, B q → b ≤ q) (hP : ∀ j i : Nat, isj9 j → (i : Int) < nj9 A j → it9q ar b w0 (θ j) i (P j i) ∧ ob9 b w0 (P j i) (ci9 j) (fj9 A j i)) : zo_M l D ar B o yX8_takeAll cX8_takeAll 2 none 8 300 108 6480 [.ref (x + 1), .ref (y + 1)] w n (fun r' w' n' => r' = none ∧ ∃ (w1 : zcW) (E : Nat → Nat), tlS ar w n o.2.1 x (fun j => (T j 1).toNat) (fun j => (θ j 2).toNat) P [8, 7, 6, 3, 2] w1 n' E ∧ tka9 ar x T θ w1 w') := by
  have hq : ∀ k, k < 3 → ∃ (p : Nat) (vs : List Value), rfv (θ 10 k) = some p ∧ w p = some (.inr (2, vs)) ∧ p < n ∧ (p < x + 1 ∨ x + 19 ≤ p) ∧ ∀ j, isj9 j → p ≠ (T j 1).toNat := by
    intro k hk
    obtain ⟨p, q1, pd, pc, pt, fd, fc, ft, g1, _⟩ := hR.con k hk
    refine ⟨p, _, by rw [q1, rfv_n], by rw [hw]; exact cw_ob g1, lt_free hfree g1.2, bk_o hBx (by decide) g1, fun j hj z => ?_⟩
    obtain ⟨a1, a2, a3⟩ := ls_n (hT j hj).1
    have lo := hlow _ _ g1.2
    rcases a3 with q | ⟨q1, q2, q3, N, f, q4, _⟩
    · omega
    · have g2 := g1.2
      rw [z, q4] at g2
      exact absurd g2 (by simp)
  obtain ⟨p0, v0, x01, x02, x03⟩ := hq 0 (by decide)
  obtain ⟨p1, v1, x11, x12, x13⟩ := hq 1 (by decide)
  obtain ⟨p2, v2, x21, x22, x23⟩ := hq 2 (by decide)
  exact g_takeAll l T θ (p0 := p0) (p1 := p1) (p2 := p2) (v0 := v0) (v1 := v1) (v2 := v2) hxy (hX 1 (by decide)) (hX 4 (by decide)) (hX 5 (by decide)) (hX 9 (by decide)) (hX 10 (by decide)) (hX 11 (by decide)) (hY 1 (by decide)) (hY 4 (by decide)) (hY 5 (by decide)) (hY 9 (by decide)) (hY 10 (by decide)) (hY 11 (by decide)) x02 x01 x12 x11 x22 x21 (hX 12 (by decide)) (hX 13 (by decide)) (hX 14 (by decide)) (hY 12 (by decide)) (hY 13 (by decide)) (hY 14 (by decide)) (byt_f hby) x03 x13 x23 (tk_H hc hw hfree hn.1 he0 hbx.1 hX hY hBx hT hoT hS hR hP) (tk_N hlow he0 hbx hBx hBy hT hoT hS hoS hne hR hP) ⟨hn.2.1, hn.2.2⟩ ⟨by omega, by omega⟩ (fun a ha => by have := hB a ha; omega) (fun a ha => by rw [hw, cw_nf (Or.inr (Or.inr (by omega)))]; exact hfree a ha)
end GTK
section NUL
variable {p : Program} {l : Launch} {e : Env} {R : Room} {s : State} {m : MethodId} {args : Array Value} {below : List Frame} {meth : Method} {c : Code} {nL : Nat} {Q : State → Prop} {pc : Nat} {loc : List (Nat × Value)} {stk : List Value} {cc : ByteArray} {own : String} {cells slots : Nat} {FR : Nat → Prop} {HI : Heap → Prop}
theorem hv_nn (C : CallFix p m c cc nL s args hk_tb own) {x : Nat} {off : Int} (tgt : Nat) (d : decode cc pc = .ok (.ifnonnull off, 3)) (ht : (pc : Int) + off = (tgt : Int)) (k : hvV p l e R s m args below meth c nL FR cells slots Q HI tgt loc stk) : hvV p l e R s m args below meth c nL FR cells slots Q HI pc loc (.ref x :: stk) := fun H locs ls h1 h2 h3 => lv_ifnonnull C.1 C.2.1 d ht (k H locs ls h1 h2 h3)
theorem hv_nnN (C : CallFix p m c cc nL s args hk_tb own) {off : Int} (d : decode cc pc = .ok (.ifnonnull off, 3)) (k : hvV p l e R s m args below meth c nL FR cells slots Q HI (pc + 3) loc stk) : hvV p l e R s m args below meth c nL FR cells slots Q HI pc loc (.null :: stk) := fun H locs ls h1 h2 h3 => lv_ifnonnullN C.1 C.2.1 d (k H locs ls h1 h2 h3)
end NUL
theorem cw_h {ar : Nat → ClassId} {b : Nat} {τ : Nat → Nat → Int} {w0 : zcW} {B : Nat → Prop} {n : Nat} (hz : zc_B B (cw ar b τ w0) n) (hB : ∀ q, B q → b ≤ q) : ∀ (a : Nat) (X : va_E), w0 a = some X → b ≤ a := by
  intro a X h
  apply Decidable.byContradiction
  intro z
  have : cw ar b τ w0 a = some X := by unfold cw; rw [if_pos (by omega)]; exact h
  have := hB a (hz.1 a X this)
  omega
set_option maxRecDepth 100000 in
set_option maxHeartbeats 4000000 in
theorem s_X11_again (l : Launch) {D : va_G} {ar : Nat → ClassId} {B : Nat → Prop} {b n : Nat} {w0 : zcW} {o : olP} (σ τ : Nat → Nat → Int) (k : Int) (Ow : Nat → Nat) (hM : Ms9 σ) (hC : CI9 ar b w0 n o.2.1 Ow σ τ) (hB : ∀ q, B q → b ≤ q) (r_k : inI k) : zo_M l D ar B o yX11_again cX11_again 2 (some .boolean) 9 340 108 6480 [.ref b, .int (iz k)] (cw ar b τ w0) n (fun r' w' n' => r' = some (.int (iz (xb (decide ((0 ≤ k ∧ k ≤ 2) ∧ ¬ σ 2 k.toNat = 0))))) ∧ n ≤ n' ∧ ∃ (τ9 : Nat → Nat → Int) (w9 : zcW) (Ow9 : Nat → Nat), w' = cw ar b τ9 w9 ∧ CI9 ar b w9 n' o.2.1 Ow9 (if (0 ≤ k ∧ k ≤ 2) ∧ ¬ σ 2 k.toNat = 0 then sA σ 1 (ag (σ 1) k.toNat 2260) else σ) τ9) := by
  refine zo_start (own := RX11) (by decide +kernel) rfl (Nat.le_of_ble_eq_true rfl) ?_
  intro p e s m args below meth c C K O hz hr hlk hnam
  have no : ∀ (h : ¬ ((0 ≤ k ∧ k ≤ 2) ∧ ¬ σ 2 k.toNat = 0)), hvV p l e { frames := 9, cells := 108, slots := 6480, locals := 340 } s m args below meth c 2 B 0 0 (MQ below (zc_Q D B (fun r' w' n' => r' = some (.int (iz (xb (decide ((0 ≤ k ∧ k ≤ 2) ∧ ¬ σ 2 k.toNat = 0))))) ∧ n ≤ n' ∧ ∃ (τ9 : Nat → Nat → Int) (w9 : zcW) (Ow9 : Nat → Nat), w' = cw ar b τ9 w9 ∧ CI9 ar b w9 n' o.2.1 Ow9 (if (0 ≤ k ∧ k ≤ 2) ∧ ¬ σ 2 k.toNat = 0 then sA σ 1 (ag (σ 1) k.toNat 2260) else σ) τ9)) args s 108 6480 B) (zc_I D B (cw ar b τ w0) n s.heap) 18 [(0, .ref b), (1, .int (iz k))] [] := by
    intro h
    refine hv_iconst C dX11_again_18 ?_
    refine hv_widen 108 6480 (by decide) (by decide) ?_
    refine zc_zret C hr hlk (v := decide ((0 ≤ k ∧ k ≤ 2) ∧ ¬ σ 2 k.toNat = 0)) (xb_f (decide_eq_false h)).symm ⟨rfl, Nat.le_refl _, τ, w0, Ow, rfl, ?_⟩ dX11_again_19
    rw [if_neg h]; exact hC
  refine hv_iload_n C 1 1 dX11_again_0 rfl rfl ?_
  refine hv_iconst C dX11_again_1 ?_
  refine hv_iconst C dX11_again_2 ?_
  refine zt_callS [.int (iz k), .int (iz 0), .int (iz 2)] [] C K (k_X11_within l τ k 0 2 r_k (by decide) (by decide)) ck_X11_62 (by decide) ⟨Nat.zero_le _, Nat.zero_le _⟩ rfl (Nat.le_of_ble_eq_true rfl) dX11_again_3 ?_
  refine hv_as (xb (decide (0 ≤ k ∧ k ≤ 2))) rfl ?_
  refine hv_dif_eq C 18 dX11_again_6 (by decide) (fun h6 => ?_) (fun h6 => ?_)
  · exact no (fun z => h6 z.1)
  obtain ⟨q, rfl⟩ : ∃ q : Nat, k = (q : Int) := ⟨k.toNat, by omega⟩
  have q3 : q < 3 := by omega
  refine hv_aload_n C 0 0 dX11_again_9 rfl rfl ?_
  refine zc_get C K (v := .ref (b + 23)) 1 rfl hu_12 (by decide) cw_0 rfl fl_X11_16 rfl dX11_again_10 ?_
  refine hv_iload_n C 1 1 dX11_again_13 rfl rfl ?_
  refine zc_aald C K (f := (fun i => rfv (τ 23 i))) 4 q (cw_at 23 rfl) rfl rfl q3 (by decide) dX11_again_14 ?_
  rcases hC.2.1 q q3 with ⟨y1, y2⟩ | ⟨y1, x, T, y2, y3, y4⟩
  · refine hv_asv .null (by show va_rf (rfv (τ 23 q)) = _; unfold rfv; rw [if_pos y1]; rfl) ?_
    refine hv_nnN C dX11_again_15 ?_
    exact no (fun z => z.2 (by rw [Int.toNat_natCast]; exact y2))
  refine hv_asv (.ref (x + 1)) (by show va_rf (rfv (τ 23 q)) = _; rw [y2, rfv_n]; rfl) ?_
  refine hv_nn C 20 dX11_again_15 (by decide) ?_
  refine hv_aload_n C 0 0 dX11_again_20 rfl rfl ?_
  refine zc_get C K (v := .ref (b + 1)) 0 rfl hu_12 (by decide) cw_0 rfl fl_X11_10 rfl dX11_again_21 ?_
  refine hv_aload_n C 0 0 dX11_again_24 rfl rfl ?_
  refine zc_get C K (v := .ref (b + 23)) 1 rfl hu_12 (by decide) cw_0 rfl fl_X11_16 rfl dX11_again_25 ?_
  refine hv_iload_n C 1 1 dX11_again_28 rfl rfl ?_
  refine zc_aald C K (f := (fun i => rfv (τ 23 i))) 4 q (cw_at 23 rfl) rfl rfl q3 (by decide) dX11_again_29 ?_
  refine hv_asv (.ref (x + 1)) (by show va_rf (rfv (τ 23 q)) = _; rw [y2, rfv_n]; rfl) ?_
  obtain ⟨P, hP⟩ := rl_P y4.1
  have iv := hM.2.2.1 q q3 y1
  refine fun H locs ls z1 z2 z3 => ?_
  have hlow := cw_h z1.2.2.1 hB
  refine (?_ : hvV p l e { frames := 9, cells := 108, slots := 6480, locals := 340 } s m args below meth c 2 B 0 0 _ (zc_I D B (cw ar b τ w0) n s.heap) 30 [(0, .ref b), (1, .int (iz ((q : Nat) : Int)))] [.ref (x + 1), .ref (b + 1)]) H locs ls z1 z2 z3
  have hx := y3.2.1
  have hxn := y3.1
  have hbn := hC.2.2.2.1
  refine zo_callV [.ref (x + 1)] [] C K O (cw_at 1 rfl) rfl (g_take l (x := b) (y := x) (T := τ) (θ := T) (A := shf9 σ q) iv.1 rfl hC.2.2.1 hlow ⟨by omega, by omega, by omega⟩ hC.2.2.2.2 ⟨Nat.le_refl _, by omega⟩ (by omega) (fun j hj => ?_) (fun j hj => ?_) (Or.inl rfl) (y3.blk q3) hC.1.2.1 (by decide) y4.2.1 (by omega) (by omega) y4.1 y4.2.2.1 hB hP) ck_X11_299 (by decide) (by decide) rfl (Nat.le_of_ble_eq_true rfl) dX11_again_30 ?_
  · rcases (by omega : j = 1 ∨ j = 2 ∨ j = 3 ∨ j = 4 ∨ j = 5 ∨ j = 6 ∨ j = 7 ∨ j = 8 ∨ j = 9 ∨ j = 10 ∨ j = 11 ∨ j = 12 ∨ j = 13 ∨ j = 14 ∨ j = 15 ∨ j = 16 ∨ j = 17 ∨ j = 18) with rfl | rfl | rfl | rfl | rfl | rfl | rfl | rfl | rfl | rfl | rfl | rfl | rfl | rfl | rfl | rfl | rfl | rfl <;> exact cw_at _ rfl
  · rw [cw_nf (Or.inr (Or.inr (by omega)))]; exact y3.2.2.1 j hj
  rintro r' w' n' ⟨h1, w1, E, hS, hK⟩
  subst h1
  refine hv_iconst C dX11_again_33 ?_
  refine zc_zret C hr hlk (v := decide ((0 ≤ ((q : Nat) : Int) ∧ ((q : Nat) : Int) ≤ 2) ∧ ¬ σ 2 ((q : Nat) : Int).toNat = 0)) (xb_t (decide_eq_true ⟨h6, by rw [Int.toNat_natCast]; exact y1⟩)).symm ⟨rfl, hS.2.2.1, ?_⟩ dX11_again_34
  obtain ⟨τ9, f1, Ow9, f2⟩ := ci_again q3 hM hC hlow y1 rfl ⟨y4.1, y4.2.2⟩ hP hS hK
  refine ⟨τ9, w', Ow9, f1.symm, ?_⟩
  rw [if_pos ⟨h6, by rw [Int.toNat_natCast]; exact y1⟩, Int.toNat_natCast]
  exact f2

