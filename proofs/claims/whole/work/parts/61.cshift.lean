def pb9 (S : Nat → Int) (w h : Nat) : Int := (if S h < 0 then 0 else S h) / 2 ^ w % 2 ^ 1
theorem pb9_r (S : Nat → Int) (w h : Nat) : 0 ≤ pb9 S w h ∧ pb9 S w h ≤ 1 := by unfold pb9; omega
def cwZ9 (Ah Bh : Nat → Int) (w : Nat) : Nat → Int × Int × Int
  | 0 => (0, 0, 0)
  | h + 1 => ((cwZ9 Ah Bh w h).1 + pb9 Ah w h, (cwZ9 Ah Bh w h).2.1 + (if pb9 Bh w h < pb9 Ah w h then 1 else 0), (cwZ9 Ah Bh w h).2.2 + (if pb9 Ah w h < pb9 Bh w h then 1 else 0))
theorem cwZ9_1 (Ah Bh : Nat → Int) (w h : Nat) : (cwZ9 Ah Bh w (h + 1)).1 = (cwZ9 Ah Bh w h).1 + pb9 Ah w h := rfl
theorem cwZ9_2 (Ah Bh : Nat → Int) (w h : Nat) : (cwZ9 Ah Bh w (h + 1)).2.1 = (cwZ9 Ah Bh w h).2.1 + (if pb9 Bh w h < pb9 Ah w h then 1 else 0) := rfl
theorem cwZ9_3 (Ah Bh : Nat → Int) (w h : Nat) : (cwZ9 Ah Bh w (h + 1)).2.2 = (cwZ9 Ah Bh w h).2.2 + (if pb9 Ah w h < pb9 Bh w h then 1 else 0) := rfl
theorem ua_id0 (f : Nat → Int) (w : Nat) : f = ua f w (f w + 0) := by
  funext q; unfold ua; split
  · next h => rw [h, Int.add_zero]
  · rfl
theorem ua_w {f g : Nat → Int} {w : Nat} {x y v : Int} (h : g = ua f w x) (e : v = y) : ua g w v = ua f w y := by rw [h, ua_ua, e]
theorem ua_k {f g : Nat → Int} {w : Nat} {x y : Int} (h : g = ua f w x) (e : x = y) : g = ua f w y := by rw [h, e]
/-- how many are pulled and put, by wire; pulled, put, pulls, puts, spare -/
def cpS (A Ah Bh Pl Pu Sp : Nat → Int) : Nat → Int × Int × (Nat → Int) × (Nat → Int) × (Nat → Int)
  | 0 => (0, 0, Pl, Pu, Sp)
  | w + 1 => ((cpS A Ah Bh Pl Pu Sp w).1 + ((cpS A Ah Bh Pl Pu Sp w).2.2.1 w + (cwZ9 Ah Bh w 24).2.1), (cpS A Ah Bh Pl Pu Sp w).2.1 + ((cpS A Ah Bh Pl Pu Sp w).2.2.2.1 w + (cwZ9 Ah Bh w 24).2.2), ua (cpS A Ah Bh Pl Pu Sp w).2.2.1 w ((cpS A Ah Bh Pl Pu Sp w).2.2.1 w + (cwZ9 Ah Bh w 24).2.1), ua (cpS A Ah Bh Pl Pu Sp w).2.2.2.1 w ((cpS A Ah Bh Pl Pu Sp w).2.2.2.1 w + (cwZ9 Ah Bh w 24).2.2), ua (cpS A Ah Bh Pl Pu Sp w).2.2.2.2 w (A (30 + 4 * w + 3) - (cwZ9 Ah Bh w 24).1))
def s7q (K : Nat → Int) : Nat → (Nat → Int)
  | 0 => K
  | w + 1 => ua (s7q K w) w 7
theorem cpS_s {A Ah Bh Pl Pu Sp a b c : Nat → Int} {w : Nat} {x y X Y C : Int} (h : cpS A Ah Bh Pl Pu Sp w = (x, y, a, b, c)) (hX : X = x + ua a w (a w + (cwZ9 Ah Bh w 24).2.1) w) (hY : Y = y + ua b w (b w + (cwZ9 Ah Bh w 24).2.2) w) (hC : C = A (30 + 4 * w + 3)) : cpS A Ah Bh Pl Pu Sp (w + 1) = (X, Y, ua a w (a w + (cwZ9 Ah Bh w 24).2.1), ua b w (b w + (cwZ9 Ah Bh w 24).2.2), ua c w (C - (cwZ9 Ah Bh w 24).1)) := by
  rw [ua_at] at hX hY
  unfold cpS
  rw [h, hX, hY, hC]
theorem sh9_s {F : Nat → Int} {k : Nat} (h : 1 ≤ k) : sh9 F k = if F k < F (sh9 F (k - 1)) then k else sh9 F (k - 1) := by
  obtain ⟨g, rfl⟩ : ∃ q, k = q + 1 := ⟨k - 1, by omega⟩
  rfl
def zbC (qb pb Sp ou : Nat → Int) (w : Nat) : Int := if qb w + 1 - Sp w ≤ 0 then 0 else if qb w + 1 - Sp w ≤ pb w then ou (7 * w + (qb w + 1 - Sp w).toNat - 1) else -1
def wdS (Pl Pu Sp : Nat → Int) : Nat → (Nat → Int) × (Nat → Int)
  | 0 => (Pl, Pu)
  | v + 1 => if ¬ v = 12 ∧ (wdS Pl Pu Sp v).2 v ≤ Sp v then (ua (ua (wdS Pl Pu Sp v).1 12 ((wdS Pl Pu Sp v).1 12 + (wdS Pl Pu Sp v).1 v)) v 0, ua (ua (wdS Pl Pu Sp v).2 12 ((wdS Pl Pu Sp v).2 12 + (wdS Pl Pu Sp v).2 v)) v 0) else wdS Pl Pu Sp v
theorem wdS_y {Pl Pu Sp a b : Nat → Int} {v : Nat} {x y z u : Int} (h : wdS Pl Pu Sp v = (a, b)) (c : ¬ v = 12) (c2 : b v ≤ Sp v) (hx : x = a 12) (hy : y = a v) (hz : z = b 12) (hu : u = b v) : wdS Pl Pu Sp (v + 1) = (ua (ua a 12 (x + y)) v 0, ua (ua b 12 (z + u)) v 0) := by
  unfold wdS
  rw [h, if_pos ⟨c, c2⟩, hx, hy, hz, hu]
theorem wdS_n {Pl Pu Sp a b : Nat → Int} {v : Nat} (h : wdS Pl Pu Sp v = (a, b)) (c : ¬ (¬ v = 12 ∧ b v ≤ Sp v)) : wdS Pl Pu Sp (v + 1) = (a, b) := by
  unfold wdS
  rw [h, if_neg c]

theorem dX6_compareWire_0 : decode cX6_compareWire 0 = .ok (.aload_n 0, 1) := by decide +kernel
theorem dX6_compareWire_1 : decode cX6_compareWire 1 = .ok (.getfield 24, 3) := by decide +kernel
theorem dX6_compareWire_4 : decode cX6_compareWire 4 = .ok (.iload_n 1, 1) := by decide +kernel
theorem dX6_compareWire_5 : decode cX6_compareWire 5 = .ok (.iload_n 2, 1) := by decide +kernel
theorem dX6_compareWire_6 : decode cX6_compareWire 6 = .ok (.iastore, 1) := by decide +kernel
theorem dX6_compareWire_7 : decode cX6_compareWire 7 = .ok (.iconst 0, 1) := by decide +kernel
theorem dX6_compareWire_8 : decode cX6_compareWire 8 = .ok (.istore 5, 2) := by decide +kernel
theorem dX6_compareWire_10 : decode cX6_compareWire 10 = .ok (.iload 5, 2) := by decide +kernel
theorem dX6_compareWire_12 : decode cX6_compareWire 12 = .ok (.bipush 24, 2) := by decide +kernel
theorem dX6_compareWire_14 : decode cX6_compareWire 14 = .ok (.if_icmp .ge 82, 3) := by decide +kernel
theorem dX6_compareWire_17 : decode cX6_compareWire 17 = .ok (.aload_n 3, 1) := by decide +kernel
theorem dX6_compareWire_18 : decode cX6_compareWire 18 = .ok (.iload 5, 2) := by decide +kernel
theorem dX6_compareWire_20 : decode cX6_compareWire 20 = .ok (.invokevirtual 65, 3) := by decide +kernel
theorem dX6_compareWire_23 : decode cX6_compareWire 23 = .ok (.iload_n 1, 1) := by decide +kernel
theorem dX6_compareWire_24 : decode cX6_compareWire 24 = .ok (.ishr, 1) := by decide +kernel
theorem dX6_compareWire_25 : decode cX6_compareWire 25 = .ok (.iconst 1, 1) := by decide +kernel
theorem dX6_compareWire_26 : decode cX6_compareWire 26 = .ok (.iand, 1) := by decide +kernel
theorem dX6_compareWire_27 : decode cX6_compareWire 27 = .ok (.istore 6, 2) := by decide +kernel
theorem dX6_compareWire_29 : decode cX6_compareWire 29 = .ok (.aload 4, 2) := by decide +kernel
theorem dX6_compareWire_31 : decode cX6_compareWire 31 = .ok (.iload 5, 2) := by decide +kernel
theorem dX6_compareWire_33 : decode cX6_compareWire 33 = .ok (.invokevirtual 65, 3) := by decide +kernel
theorem dX6_compareWire_36 : decode cX6_compareWire 36 = .ok (.iload_n 1, 1) := by decide +kernel
theorem dX6_compareWire_37 : decode cX6_compareWire 37 = .ok (.ishr, 1) := by decide +kernel
theorem dX6_compareWire_38 : decode cX6_compareWire 38 = .ok (.iconst 1, 1) := by decide +kernel
theorem dX6_compareWire_39 : decode cX6_compareWire 39 = .ok (.iand, 1) := by decide +kernel
theorem dX6_compareWire_40 : decode cX6_compareWire 40 = .ok (.istore 7, 2) := by decide +kernel
theorem dX6_compareWire_42 : decode cX6_compareWire 42 = .ok (.aload_n 0, 1) := by decide +kernel
theorem dX6_compareWire_43 : decode cX6_compareWire 43 = .ok (.getfield 24, 3) := by decide +kernel
theorem dX6_compareWire_46 : decode cX6_compareWire 46 = .ok (.iload_n 1, 1) := by decide +kernel
theorem dX6_compareWire_47 : decode cX6_compareWire 47 = .ok (.dup2, 1) := by decide +kernel
theorem dX6_compareWire_48 : decode cX6_compareWire 48 = .ok (.iaload, 1) := by decide +kernel
theorem dX6_compareWire_49 : decode cX6_compareWire 49 = .ok (.iload 6, 2) := by decide +kernel
theorem dX6_compareWire_51 : decode cX6_compareWire 51 = .ok (.isub, 1) := by decide +kernel
theorem dX6_compareWire_52 : decode cX6_compareWire 52 = .ok (.iastore, 1) := by decide +kernel
theorem dX6_compareWire_53 : decode cX6_compareWire 53 = .ok (.iload 6, 2) := by decide +kernel
theorem dX6_compareWire_55 : decode cX6_compareWire 55 = .ok (.iload 7, 2) := by decide +kernel
theorem dX6_compareWire_57 : decode cX6_compareWire 57 = .ok (.if_icmp .le 16, 3) := by decide +kernel
theorem dX6_compareWire_60 : decode cX6_compareWire 60 = .ok (.aload_n 0, 1) := by decide +kernel
theorem dX6_compareWire_61 : decode cX6_compareWire 61 = .ok (.getfield 9, 3) := by decide +kernel
theorem dX6_compareWire_64 : decode cX6_compareWire 64 = .ok (.iload_n 1, 1) := by decide +kernel
theorem dX6_compareWire_65 : decode cX6_compareWire 65 = .ok (.dup2, 1) := by decide +kernel
theorem dX6_compareWire_66 : decode cX6_compareWire 66 = .ok (.iaload, 1) := by decide +kernel
theorem dX6_compareWire_67 : decode cX6_compareWire 67 = .ok (.iconst 1, 1) := by decide +kernel
theorem dX6_compareWire_68 : decode cX6_compareWire 68 = .ok (.iadd, 1) := by decide +kernel
theorem dX6_compareWire_69 : decode cX6_compareWire 69 = .ok (.iastore, 1) := by decide +kernel
theorem dX6_compareWire_70 : decode cX6_compareWire 70 = .ok (.goto 20, 3) := by decide +kernel
theorem dX6_compareWire_73 : decode cX6_compareWire 73 = .ok (.iload 7, 2) := by decide +kernel
theorem dX6_compareWire_75 : decode cX6_compareWire 75 = .ok (.iload 6, 2) := by decide +kernel
theorem dX6_compareWire_77 : decode cX6_compareWire 77 = .ok (.if_icmp .le 13, 3) := by decide +kernel
theorem dX6_compareWire_80 : decode cX6_compareWire 80 = .ok (.aload_n 0, 1) := by decide +kernel
theorem dX6_compareWire_81 : decode cX6_compareWire 81 = .ok (.getfield 15, 3) := by decide +kernel
theorem dX6_compareWire_84 : decode cX6_compareWire 84 = .ok (.iload_n 1, 1) := by decide +kernel
theorem dX6_compareWire_85 : decode cX6_compareWire 85 = .ok (.dup2, 1) := by decide +kernel
theorem dX6_compareWire_86 : decode cX6_compareWire 86 = .ok (.iaload, 1) := by decide +kernel
theorem dX6_compareWire_87 : decode cX6_compareWire 87 = .ok (.iconst 1, 1) := by decide +kernel
theorem dX6_compareWire_88 : decode cX6_compareWire 88 = .ok (.iadd, 1) := by decide +kernel
theorem dX6_compareWire_89 : decode cX6_compareWire 89 = .ok (.iastore, 1) := by decide +kernel
theorem dX6_compareWire_90 : decode cX6_compareWire 90 = .ok (.iinc 5 1, 3) := by decide +kernel
theorem dX6_compareWire_93 : decode cX6_compareWire 93 = .ok (.goto (-83), 3) := by decide +kernel
theorem dX6_compareWire_96 : decode cX6_compareWire 96 = .ok (.return_, 1) := by decide +kernel
theorem fl_X6_24 : Cond.fieldLink RX6 24 "HookUps$Shift" (TX6 6).2.1 (TX6 6).2.2.1 ∈ hk_tb := hk_tq2 5 (by decide +kernel) (by decide +kernel)
theorem ck_X6_65 : zcV RX6 RX10 yX10_plugs cX10_plugs 2 (some .int) 65 1 := ⟨hk_tq4 212 (by decide +kernel) (by decide +kernel), hk_tq4 209 (by decide +kernel) (by decide +kernel), hk_tq1 8 (by decide +kernel) (by decide +kernel), ⟨by decide, by decide, by decide +kernel⟩, hk_tq4 210 (by decide +kernel) (by decide +kernel), hk_tq4 211 (by decide +kernel) (by decide +kernel)⟩
theorem fl_X6_15 : Cond.fieldLink RX6 15 "HookUps$Shift" (TX6 3).2.1 (TX6 3).2.2.1 ∈ hk_tb := hk_tq2 2 (by decide +kernel) (by decide +kernel)
theorem fl_X6_9 : Cond.fieldLink RX6 9 "HookUps$Shift" (TX6 2).2.1 (TX6 2).2.2.1 ∈ hk_tb := hk_tq2 1 (by decide +kernel) (by decide +kernel)
set_option maxRecDepth 100000 in
set_option maxHeartbeats 4000000 in
theorem k_X6_compareWire (l : Launch) {D : va_G} {ar : Nat → ClassId} {B : Nat → Prop} {b n : Nat} {w0 : zcW}  (τ : Nat → Nat → Int) (w : Nat) (cir : Int) (hw : w < 12) (hs25 : ∀ q, q < 24 → -1 ≤ τ 25 q ∧ τ 25 q ≤ 4095) (hs31 : ∀ q, q < 24 → -1 ≤ τ 31 q ∧ τ 31 q ≤ 4095) : zt_M l D ar B b w0 n yX6_compareWire cX6_compareWire 8 none 2 42 [.ref (b + 36), .int (iz ((w : Nat) : Int)), .int (iz cir), .ref (b + 30), .ref (b + 24)] τ none (sA (sA (sA τ 37 (ua (τ 37) w (τ 37 w + (cwZ9 (τ 31) (τ 25) w 24).2.1))) 38 (ua (τ 38) w (τ 38 w + (cwZ9 (τ 31) (τ 25) w 24).2.2))) 41 (ua (τ 41) w (cir - (cwZ9 (τ 31) (τ 25) w 24).1))) := by
  refine zc_start (own := RX6) (by decide +kernel) rfl (Nat.le_of_ble_eq_true rfl) ?_
  intro p e s m args below meth c C K hr hlk hnam
  refine hv_aload_n C 0 0 dX6_compareWire_0 rfl rfl ?_
  refine zc_get C K (v := .ref (b + 41)) 6 rfl hu_7 (by decide) (cw_at 36 rfl) rfl fl_X6_24 rfl dX6_compareWire_1 ?_
  refine hv_iload_n C 1 1 dX6_compareWire_4 rfl rfl ?_
  refine hv_iload_n C 2 2 dX6_compareWire_5 rfl rfl ?_
  refine zc_iast C K (f := (τ 41)) w (cw_at 41 rfl) (cw_set 41 w cir rfl) (by omega) (by omega) (by decide) dX6_compareWire_6 ?_
  refine zt_st (τ2 := sA τ 41 (ua (τ 41) w cir)) (by rw [u2_sA]; first | done | rfl) ?_
  refine hv_iconst C dX6_compareWire_7 ?_
  refine hv_istore C 5 [(5, .int (iz 0)), (0, .ref (b + 36)), (1, .int (iz ((w : Nat) : Int))), (2, .int (iz cir)), (3, .ref (b + 30)), (4, .ref (b + 24))] dX6_compareWire_8 (by decide) rfl ?_
  have L10 : ∀ (f : Nat) (h : Nat) (Pl : Nat → Int) (Pu : Nat → Int) (Sp : Nat → Int), 24 - h < f → (h ≤ 24) → (Sp = ua (τ 41) w (cir - (cwZ9 (τ 31) (τ 25) w h).1)) → (Pl = ua (τ 37) w (τ 37 w + (cwZ9 (τ 31) (τ 25) w h).2.1)) → (Pu = ua (τ 38) w (τ 38 w + (cwZ9 (τ 31) (τ 25) w h).2.2)) → hvV p l e { frames := 2, cells := 0, slots := 0, locals := 42 } s m args below meth c 8 B 0 0 (MQ below (zc_Q D B (fun r' w' n' => r' = none ∧ w' = cw ar b (sA (sA (sA τ 37 (ua (τ 37) w (τ 37 w + (cwZ9 (τ 31) (τ 25) w 24).2.1))) 38 (ua (τ 38) w (τ 38 w + (cwZ9 (τ 31) (τ 25) w 24).2.2))) 41 (ua (τ 41) w (cir - (cwZ9 (τ 31) (τ 25) w 24).1))) w0 ∧ n' = n)) args s 0 0 B) (zc_I D B (cw ar b (sA (sA (sA τ 37 Pl) 38 Pu) 41 Sp) w0) n s.heap) 10 [(0, .ref (b + 36)), (1, .int (iz ((w : Nat) : Int))), (2, .int (iz cir)), (3, .ref (b + 30)), (4, .ref (b + 24)), (5, .int (iz ((h : Nat) : Int)))] [] := by
    intro f
    induction f with
    | zero => intro _ _ _ _ hm; exact absurd hm (Nat.not_lt_zero _)
    | succ f ih10 =>
      intro h Pl Pu Sp hm10 hh9 hSp hPl hPu
      refine hv_iload C 5 5 dX6_compareWire_10 rfl ?_
      refine hv_bipush C dX6_compareWire_12 (by decide) ?_
      refine hv_icmp_ge C 96 dX6_compareWire_14 (by decide) (by omega) (by omega) (fun h14 => ?_) (fun h14 => ?_)
      · skip
        exact zt_vret C hr hlk (by rw [hSp, hPl, hPu, show h = 24 by omega]) dX6_compareWire_96
      · skip
        have zSp : Sp w = cir - (cwZ9 (τ 31) (τ 25) w h).1 := by rw [hSp, ua_at]
        have zPl : Pl w = τ 37 w + (cwZ9 (τ 31) (τ 25) w h).2.1 := by rw [hPl, ua_at]
        have zPu : Pu w = τ 38 w + (cwZ9 (τ 31) (τ 25) w h).2.2 := by rw [hPu, ua_at]
        have zr1 := hs31 h (by omega)
        have zr2 := hs25 h (by omega)
        have zq1 := pb9_r (τ 31) w h
        have zq2 := pb9_r (τ 25) w h
        refine hv_aload_n C 3 3 dX6_compareWire_17 rfl rfl ?_
        refine hv_iload C 5 5 dX6_compareWire_18 rfl ?_
        refine zt_callV [.int (iz ((h : Nat) : Int))] [] C K (cw_at 30 rfl) rfl (k_X10_plugs_wb l  (sA (sA (sA τ 37 Pl) 38 Pu) 41 Sp) h (by omega) hs31) ck_X6_65 (by decide) ⟨Nat.zero_le _, Nat.zero_le _⟩ rfl (Nat.le_of_ble_eq_true rfl) dX6_compareWire_20 ?_
        refine hv_as ((if τ 31 h < 0 then 0 else τ 31 h)) rfl ?_
        refine hv_nm (fun x1 ex1 => ?_)
        have zrx : 0 ≤ x1 ∧ x1 ≤ 4095 := by rw [ex1]; split <;> omega
        refine hv_iload_n C 1 1 dX6_compareWire_23 rfl rfl ?_
        refine hv_ishr C w (by omega) (by omega) (by omega) dX6_compareWire_24 ?_
        refine hv_iconst C dX6_compareWire_25 ?_
        refine hv_imsk C 1 (by decide) (by decide) dX6_compareWire_26 ?_
        refine hv_as ((pb9 (τ 31) w h)) (by unfold pb9; congr 2) ?_
        refine hv_istore C 6 [(6, .int (iz (pb9 (τ 31) w h))), (0, .ref (b + 36)), (1, .int (iz ((w : Nat) : Int))), (2, .int (iz cir)), (3, .ref (b + 30)), (4, .ref (b + 24)), (5, .int (iz ((h : Nat) : Int)))] dX6_compareWire_27 (by decide) rfl ?_
        refine hv_aload C 4 5 dX6_compareWire_29 rfl ?_
        refine hv_iload C 5 6 dX6_compareWire_31 rfl ?_
        refine zt_callV [.int (iz ((h : Nat) : Int))] [] C K (cw_at 24 rfl) rfl (k_X10_plugs_wa l  (sA (sA (sA τ 37 Pl) 38 Pu) 41 Sp) h (by omega) hs25) ck_X6_65 (by decide) ⟨Nat.zero_le _, Nat.zero_le _⟩ rfl (Nat.le_of_ble_eq_true rfl) dX6_compareWire_33 ?_
        refine hv_as ((if τ 25 h < 0 then 0 else τ 25 h)) rfl ?_
        refine hv_nm (fun x2 ex2 => ?_)
        have zrx : 0 ≤ x2 ∧ x2 ≤ 4095 := by rw [ex2]; split <;> omega
        refine hv_iload_n C 1 2 dX6_compareWire_36 rfl rfl ?_
        refine hv_ishr C w (by omega) (by omega) (by omega) dX6_compareWire_37 ?_
        refine hv_iconst C dX6_compareWire_38 ?_
        refine hv_imsk C 1 (by decide) (by decide) dX6_compareWire_39 ?_
        refine hv_as ((pb9 (τ 25) w h)) (by unfold pb9; congr 2) ?_
        refine hv_istore C 7 [(7, .int (iz (pb9 (τ 25) w h))), (6, .int (iz (pb9 (τ 31) w h))), (0, .ref (b + 36)), (1, .int (iz ((w : Nat) : Int))), (2, .int (iz cir)), (3, .ref (b + 30)), (4, .ref (b + 24)), (5, .int (iz ((h : Nat) : Int)))] dX6_compareWire_40 (by decide) rfl ?_
        refine hv_aload_n C 0 2 dX6_compareWire_42 rfl rfl ?_
        refine zc_get C K (v := .ref (b + 41)) 6 rfl hu_7 (by decide) (cw_at 36 rfl) rfl fl_X6_24 rfl dX6_compareWire_43 ?_
        refine hv_iload_n C 1 3 dX6_compareWire_46 rfl rfl ?_
        refine hv_dup2 C dX6_compareWire_47 rfl rfl ?_
        refine zc_iald C K (f := Sp) w (cw_at 41 rfl) (by omega) (by omega) (by decide) dX6_compareWire_48 ?_
        refine hv_nm (fun x3 ex3 => ?_)
        refine hv_iload C 6 1 dX6_compareWire_49 rfl ?_
        refine hv_isub C dX6_compareWire_51 ?_
        refine zc_iast C K (f := Sp) w (cw_at 41 rfl) (cw_set 41 w (x3 - (pb9 (τ 31) w h)) rfl) (by omega) (by omega) (by decide) dX6_compareWire_52 ?_
        refine zt_st (τ2 := sA (sA (sA τ 37 Pl) 38 Pu) 41 (ua Sp w (x3 - (pb9 (τ 31) w h)))) (by rw [u2_sA, sA_sA]; first | done | rfl) ?_
        refine hv_iload C 6 1 dX6_compareWire_53 rfl ?_
        refine hv_iload C 7 0 dX6_compareWire_55 rfl ?_
        refine hv_icmp_le C 73 dX6_compareWire_57 (by decide) (by omega) (by omega) (fun h57 => ?_) (fun h57 => ?_)
        · skip
          refine hv_iload C 7 0 dX6_compareWire_73 rfl ?_
          refine hv_iload C 6 1 dX6_compareWire_75 rfl ?_
          refine hv_icmp_le C 90 dX6_compareWire_77 (by decide) (by omega) (by omega) (fun h77 => ?_) (fun h77 => ?_)
          · skip
            refine hv_iinc C 5 7 [(5, .int (iz (((h : Nat) : Int) + 1))), (7, .int (iz (pb9 (τ 25) w h))), (6, .int (iz (pb9 (τ 31) w h))), (0, .ref (b + 36)), (1, .int (iz ((w : Nat) : Int))), (2, .int (iz cir)), (3, .ref (b + 30)), (4, .ref (b + 24))] dX6_compareWire_90 rfl (by decide) rfl ?_
            refine hv_goto C 10 dX6_compareWire_93 (by decide) ?_
            refine hv_loc [3, 4, 5, 6, 7, 0] [(0, .ref (b + 36)), (1, .int (iz ((w : Nat) : Int))), (2, .int (iz cir)), (3, .ref (b + 30)), (4, .ref (b + 24)), (5, .int (iz (((h : Nat) : Int) + 1)))] rfl ?_
            exact ih10 (h + 1) Pl Pu (ua Sp w (x3 - (pb9 (τ 31) w h))) (by omega) (by omega) (ua_w hSp (by rw [cwZ9_1]; omega)) (by first | exact ua_w hPl (by rw [cwZ9_2, if_pos (by omega)]; omega) | exact ua_k hPl (by rw [cwZ9_2, if_neg (by omega)]; omega)) (by first | exact ua_w hPu (by rw [cwZ9_3, if_pos (by omega)]; omega) | exact ua_k hPu (by rw [cwZ9_3, if_neg (by omega)]; omega))
          · skip
            refine hv_aload_n C 0 2 dX6_compareWire_80 rfl rfl ?_
            refine zc_get C K (v := .ref (b + 38)) 3 rfl hu_7 (by decide) (cw_at 36 rfl) rfl fl_X6_15 rfl dX6_compareWire_81 ?_
            refine hv_iload_n C 1 3 dX6_compareWire_84 rfl rfl ?_
            refine hv_dup2 C dX6_compareWire_85 rfl rfl ?_
            refine zc_iald C K (f := Pu) w (cw_at 38 rfl) (by omega) (by omega) (by decide) dX6_compareWire_86 ?_
            refine hv_nm (fun x4 ex4 => ?_)
            refine hv_iconst C dX6_compareWire_87 ?_
            refine hv_iadd C dX6_compareWire_88 ?_
            refine zc_iast C K (f := Pu) w (cw_at 38 rfl) (cw_set 38 w (x4 + 1) rfl) (by omega) (by omega) (by decide) dX6_compareWire_89 ?_
            refine zt_st (τ2 := sA (sA (sA τ 37 Pl) 38 (ua Pu w (x4 + 1))) 41 (ua Sp w (x3 - (pb9 (τ 31) w h)))) (by rw [u2_sA, sA_comm (j := 41) (k := 38) (by decide), sA_sA]; first | done | rfl) ?_
            refine hv_iinc C 5 7 [(5, .int (iz (((h : Nat) : Int) + 1))), (7, .int (iz (pb9 (τ 25) w h))), (6, .int (iz (pb9 (τ 31) w h))), (0, .ref (b + 36)), (1, .int (iz ((w : Nat) : Int))), (2, .int (iz cir)), (3, .ref (b + 30)), (4, .ref (b + 24))] dX6_compareWire_90 rfl (by decide) rfl ?_
            refine hv_goto C 10 dX6_compareWire_93 (by decide) ?_
            refine hv_loc [3, 4, 5, 6, 7, 0] [(0, .ref (b + 36)), (1, .int (iz ((w : Nat) : Int))), (2, .int (iz cir)), (3, .ref (b + 30)), (4, .ref (b + 24)), (5, .int (iz (((h : Nat) : Int) + 1)))] rfl ?_
            exact ih10 (h + 1) Pl (ua Pu w (x4 + 1)) (ua Sp w (x3 - (pb9 (τ 31) w h))) (by omega) (by omega) (ua_w hSp (by rw [cwZ9_1]; omega)) (by first | exact ua_w hPl (by rw [cwZ9_2, if_pos (by omega)]; omega) | exact ua_k hPl (by rw [cwZ9_2, if_neg (by omega)]; omega)) (by first | exact ua_w hPu (by rw [cwZ9_3, if_pos (by omega)]; omega) | exact ua_k hPu (by rw [cwZ9_3, if_neg (by omega)]; omega))
        · skip
          refine hv_aload_n C 0 2 dX6_compareWire_60 rfl rfl ?_
          refine zc_get C K (v := .ref (b + 37)) 2 rfl hu_7 (by decide) (cw_at 36 rfl) rfl fl_X6_9 rfl dX6_compareWire_61 ?_
          refine hv_iload_n C 1 3 dX6_compareWire_64 rfl rfl ?_
          refine hv_dup2 C dX6_compareWire_65 rfl rfl ?_
          refine zc_iald C K (f := Pl) w (cw_at 37 rfl) (by omega) (by omega) (by decide) dX6_compareWire_66 ?_
          refine hv_nm (fun x5 ex5 => ?_)
          refine hv_iconst C dX6_compareWire_67 ?_
          refine hv_iadd C dX6_compareWire_68 ?_
          refine zc_iast C K (f := Pl) w (cw_at 37 rfl) (cw_set 37 w (x5 + 1) rfl) (by omega) (by omega) (by decide) dX6_compareWire_69 ?_
          refine zt_st (τ2 := sA (sA (sA τ 37 (ua Pl w (x5 + 1))) 38 Pu) 41 (ua Sp w (x3 - (pb9 (τ 31) w h)))) (by rw [u2_sA, sA_comm (j := 41) (k := 37) (by decide), sA_comm (j := 38) (k := 37) (by decide), sA_sA]; first | done | rfl) ?_
          refine hv_goto C 90 dX6_compareWire_70 (by decide) ?_
          refine hv_iinc C 5 7 [(5, .int (iz (((h : Nat) : Int) + 1))), (7, .int (iz (pb9 (τ 25) w h))), (6, .int (iz (pb9 (τ 31) w h))), (0, .ref (b + 36)), (1, .int (iz ((w : Nat) : Int))), (2, .int (iz cir)), (3, .ref (b + 30)), (4, .ref (b + 24))] dX6_compareWire_90 rfl (by decide) rfl ?_
          refine hv_goto C 10 dX6_compareWire_93 (by decide) ?_
          refine hv_loc [3, 4, 5, 6, 7, 0] [(0, .ref (b + 36)), (1, .int (iz ((w : Nat) : Int))), (2, .int (iz cir)), (3, .ref (b + 30)), (4, .ref (b + 24)), (5, .int (iz (((h : Nat) : Int) + 1)))] rfl ?_
          exact ih10 (h + 1) (ua Pl w (x5 + 1)) Pu (ua Sp w (x3 - (pb9 (τ 31) w h))) (by omega) (by omega) (ua_w hSp (by rw [cwZ9_1]; omega)) (by first | exact ua_w hPl (by rw [cwZ9_2, if_pos (by omega)]; omega) | exact ua_k hPl (by rw [cwZ9_2, if_neg (by omega)]; omega)) (by first | exact ua_w hPu (by rw [cwZ9_3, if_pos (by omega)]; omega) | exact ua_k hPu (by rw [cwZ9_3, if_neg (by omega)]; omega))
  refine hv_loc [1, 2, 3, 4, 5, 0] [(0, .ref (b + 36)), (1, .int (iz ((w : Nat) : Int))), (2, .int (iz cir)), (3, .ref (b + 30)), (4, .ref (b + 24)), (5, .int (iz 0))] rfl ?_
  refine zt_st (τ2 := sA (sA τ 37 (τ 37)) 41 (ua (τ 41) w cir)) ((sA_id (sA τ 41 (ua (τ 41) w cir)) 37).symm.trans (by rw [sA_comm (j := 41) (k := 37) (by decide)]; first | done | rfl)) ?_
  refine zt_st (τ2 := sA (sA (sA τ 37 (τ 37)) 38 (τ 38)) 41 (ua (τ 41) w cir)) ((sA_id (sA (sA τ 37 (τ 37)) 41 (ua (τ 41) w cir)) 38).symm.trans (by rw [sA_comm (j := 41) (k := 38) (by decide)]; first | done | rfl)) ?_
  exact L10 _ 0 (τ 37) (τ 38) (ua (τ 41) w cir) (Nat.lt_succ_self _) (by omega) (by show ua _ w cir = ua _ w (cir - 0); rw [Int.sub_zero]) (ua_id0 _ _) (ua_id0 _ _)
theorem dX6_compare_0 : decode cX6_compare 0 = .ok (.aload_n 0, 1) := by decide +kernel
theorem dX6_compare_1 : decode cX6_compare 1 = .ok (.iconst 0, 1) := by decide +kernel
theorem dX6_compare_2 : decode cX6_compare 2 = .ok (.putfield 33, 3) := by decide +kernel
theorem dX6_compare_5 : decode cX6_compare 5 = .ok (.aload_n 0, 1) := by decide +kernel
theorem dX6_compare_6 : decode cX6_compare 6 = .ok (.iconst 0, 1) := by decide +kernel
theorem dX6_compare_7 : decode cX6_compare 7 = .ok (.putfield 37, 3) := by decide +kernel
theorem dX6_compare_10 : decode cX6_compare 10 = .ok (.iconst 0, 1) := by decide +kernel
theorem dX6_compare_11 : decode cX6_compare 11 = .ok (.istore 4, 2) := by decide +kernel
theorem dX6_compare_13 : decode cX6_compare 13 = .ok (.iload 4, 2) := by decide +kernel
theorem dX6_compare_15 : decode cX6_compare 15 = .ok (.bipush 12, 2) := by decide +kernel
theorem dX6_compare_17 : decode cX6_compare 17 = .ok (.if_icmp .gt 34, 3) := by decide +kernel
theorem dX6_compare_20 : decode cX6_compare 20 = .ok (.aload_n 0, 1) := by decide +kernel
theorem dX6_compare_21 : decode cX6_compare 21 = .ok (.getfield 9, 3) := by decide +kernel
theorem dX6_compare_24 : decode cX6_compare 24 = .ok (.iload 4, 2) := by decide +kernel
theorem dX6_compare_26 : decode cX6_compare 26 = .ok (.iconst 0, 1) := by decide +kernel
theorem dX6_compare_27 : decode cX6_compare 27 = .ok (.iastore, 1) := by decide +kernel
theorem dX6_compare_28 : decode cX6_compare 28 = .ok (.aload_n 0, 1) := by decide +kernel
theorem dX6_compare_29 : decode cX6_compare 29 = .ok (.getfield 15, 3) := by decide +kernel
theorem dX6_compare_32 : decode cX6_compare 32 = .ok (.iload 4, 2) := by decide +kernel
theorem dX6_compare_34 : decode cX6_compare 34 = .ok (.iconst 0, 1) := by decide +kernel
theorem dX6_compare_35 : decode cX6_compare 35 = .ok (.iastore, 1) := by decide +kernel
theorem dX6_compare_36 : decode cX6_compare 36 = .ok (.aload_n 0, 1) := by decide +kernel
theorem dX6_compare_37 : decode cX6_compare 37 = .ok (.getfield 24, 3) := by decide +kernel
theorem dX6_compare_40 : decode cX6_compare 40 = .ok (.iload 4, 2) := by decide +kernel
theorem dX6_compare_42 : decode cX6_compare 42 = .ok (.bipush 7, 2) := by decide +kernel
theorem dX6_compare_44 : decode cX6_compare 44 = .ok (.iastore, 1) := by decide +kernel
theorem dX6_compare_45 : decode cX6_compare 45 = .ok (.iinc 4 1, 3) := by decide +kernel
theorem dX6_compare_48 : decode cX6_compare 48 = .ok (.goto (-35), 3) := by decide +kernel
theorem dX6_compare_51 : decode cX6_compare 51 = .ok (.iconst 0, 1) := by decide +kernel
theorem dX6_compare_52 : decode cX6_compare 52 = .ok (.istore 4, 2) := by decide +kernel
theorem dX6_compare_54 : decode cX6_compare 54 = .ok (.iload 4, 2) := by decide +kernel
theorem dX6_compare_56 : decode cX6_compare 56 = .ok (.aload_n 1, 1) := by decide +kernel
theorem dX6_compare_57 : decode cX6_compare 57 = .ok (.getfield 40, 3) := by decide +kernel
theorem dX6_compare_60 : decode cX6_compare 60 = .ok (.invokevirtual 46, 3) := by decide +kernel
theorem dX6_compare_63 : decode cX6_compare 63 = .ok (.if_icmp .ge 64, 3) := by decide +kernel
theorem dX6_compare_66 : decode cX6_compare 66 = .ok (.aload_n 0, 1) := by decide +kernel
theorem dX6_compare_67 : decode cX6_compare 67 = .ok (.iload 4, 2) := by decide +kernel
theorem dX6_compare_69 : decode cX6_compare 69 = .ok (.aload_n 1, 1) := by decide +kernel
theorem dX6_compare_70 : decode cX6_compare 70 = .ok (.getfield 40, 3) := by decide +kernel
theorem dX6_compare_73 : decode cX6_compare 73 = .ok (.iload 4, 2) := by decide +kernel
theorem dX6_compare_75 : decode cX6_compare 75 = .ok (.invokevirtual 52, 3) := by decide +kernel
theorem dX6_compare_78 : decode cX6_compare 78 = .ok (.checkcast 56, 3) := by decide +kernel
theorem dX6_compare_81 : decode cX6_compare 81 = .ok (.getfield 58, 3) := by decide +kernel
theorem dX6_compare_84 : decode cX6_compare 84 = .ok (.aload_n 2, 1) := by decide +kernel
theorem dX6_compare_85 : decode cX6_compare 85 = .ok (.aload_n 3, 1) := by decide +kernel
theorem dX6_compare_86 : decode cX6_compare 86 = .ok (.invokevirtual 61, 3) := by decide +kernel
theorem dX6_compare_89 : decode cX6_compare 89 = .ok (.aload_n 0, 1) := by decide +kernel
theorem dX6_compare_90 : decode cX6_compare 90 = .ok (.dup, 1) := by decide +kernel
theorem dX6_compare_91 : decode cX6_compare 91 = .ok (.getfield 33, 3) := by decide +kernel
theorem dX6_compare_94 : decode cX6_compare 94 = .ok (.aload_n 0, 1) := by decide +kernel
theorem dX6_compare_95 : decode cX6_compare 95 = .ok (.getfield 9, 3) := by decide +kernel
theorem dX6_compare_98 : decode cX6_compare 98 = .ok (.iload 4, 2) := by decide +kernel
theorem dX6_compare_100 : decode cX6_compare 100 = .ok (.iaload, 1) := by decide +kernel
theorem dX6_compare_101 : decode cX6_compare 101 = .ok (.iadd, 1) := by decide +kernel
theorem dX6_compare_102 : decode cX6_compare 102 = .ok (.putfield 33, 3) := by decide +kernel
theorem dX6_compare_105 : decode cX6_compare 105 = .ok (.aload_n 0, 1) := by decide +kernel
theorem dX6_compare_106 : decode cX6_compare 106 = .ok (.dup, 1) := by decide +kernel
theorem dX6_compare_107 : decode cX6_compare 107 = .ok (.getfield 37, 3) := by decide +kernel
theorem dX6_compare_110 : decode cX6_compare 110 = .ok (.aload_n 0, 1) := by decide +kernel
theorem dX6_compare_111 : decode cX6_compare 111 = .ok (.getfield 15, 3) := by decide +kernel
theorem dX6_compare_114 : decode cX6_compare 114 = .ok (.iload 4, 2) := by decide +kernel
theorem dX6_compare_116 : decode cX6_compare 116 = .ok (.iaload, 1) := by decide +kernel
theorem dX6_compare_117 : decode cX6_compare 117 = .ok (.iadd, 1) := by decide +kernel
theorem dX6_compare_118 : decode cX6_compare 118 = .ok (.putfield 37, 3) := by decide +kernel
theorem dX6_compare_121 : decode cX6_compare 121 = .ok (.iinc 4 1, 3) := by decide +kernel
theorem dX6_compare_124 : decode cX6_compare 124 = .ok (.goto (-70), 3) := by decide +kernel
theorem dX6_compare_127 : decode cX6_compare 127 = .ok (.return_, 1) := by decide +kernel
theorem fl_X6_33 : Cond.fieldLink RX6 33 "HookUps$Shift" (TX6 0).2.1 (TX6 0).2.2.1 ∈ hk_tb := hk_tq1 237 (by decide +kernel) (by decide +kernel)
theorem fl_X6_37 : Cond.fieldLink RX6 37 "HookUps$Shift" (TX6 1).2.1 (TX6 1).2.2.1 ∈ hk_tb := hk_tq1 239 (by decide +kernel) (by decide +kernel)
theorem fl_X6_40 : Cond.fieldLink RX6 40 "HookUps$Told" (TX8 1).2.1 (TX8 1).2.2.1 ∈ hk_tb := hk_tq1 126 (by decide +kernel) (by decide +kernel)
theorem ck_X6_46 : zcV RX6 RJx4a65c yJx4a65c_size_8abf5 cJx4a65c_size_8abf5 1 (some .int) 46 0 := ⟨hk_tq2 102 (by decide +kernel) (by decide +kernel), hk_tq4 202 (by decide +kernel) (by decide +kernel), hk_tq1 5 (by decide +kernel) (by decide +kernel), ⟨by decide, by decide, by decide +kernel⟩, hk_tq2 100 (by decide +kernel) (by decide +kernel), hk_tq2 101 (by decide +kernel) (by decide +kernel)⟩
theorem ck_X6_52 : zcV RX6 RJx4a65c yJx4a65c_get_915e3 cJx4a65c_get_915e3 2 (some (.object "java/lang/Object")) 52 1 := ⟨hk_tq3 64 (by decide +kernel) (by decide +kernel), hk_tq4 203 (by decide +kernel) (by decide +kernel), hk_tq1 5 (by decide +kernel) (by decide +kernel), ⟨by decide, by decide, by decide +kernel⟩, hk_tq3 62 (by decide +kernel) (by decide +kernel), hk_tq3 63 (by decide +kernel) (by decide +kernel)⟩
theorem cl_X6_56 : Cond.classLink RX6 56 RX9 ∈ hk_tb := hk_tq4 204 (by decide +kernel) (by decide +kernel)
theorem fl_X6_58 : Cond.fieldLink RX6 58 "HookUps$Wire" (TX9 3).2.1 (TX9 3).2.2.1 ∈ hk_tb := hk_tq2 123 (by decide +kernel) (by decide +kernel)
theorem ck_X6_61 : zcV RX6 RX6 yX6_compareWire cX6_compareWire 8 none 61 4 := ⟨hk_tq4 208 (by decide +kernel) (by decide +kernel), hk_tq4 205 (by decide +kernel) (by decide +kernel), hk_tq1 9 (by decide +kernel) (by decide +kernel), ⟨by decide, by decide, by decide +kernel⟩, hk_tq4 207 (by decide +kernel) (by decide +kernel), hk_s 22 (by decide +kernel) (by decide +kernel)⟩
set_option maxRecDepth 100000 in
set_option maxHeartbeats 4000000 in
theorem k_X6_compare (l : Launch) {D : va_G} {ar : Nat → ClassId} {B : Nat → Prop} {b n : Nat} {w0 : zcW} (A : Nat → Int) (τ : Nat → Nat → Int)  (hA : ∀ i, inI (A i)) (hR : Rel9 ar b w0 A τ) (hc : cn A) (hwi : wi A) (hs25 : ∀ q, q < 24 → -1 ≤ τ 25 q ∧ τ 25 q ≤ 4095) (hs31 : ∀ q, q < 24 → -1 ≤ τ 31 q ∧ τ 31 q ≤ 4095) : zt_M l D ar B b w0 n yX6_compare cX6_compare 5 none 3 69 [.ref (b + 36), .ref (b + 1), .ref (b + 30), .ref (b + 24)] τ none (sA (sA (sA (sA τ 36 (ua (ua (τ 36) 0 (cpS A (τ 31) (τ 25) (zt (τ 37) 13) (zt (τ 38) 13) (s7q (τ 41) 13) (A 1).toNat).1) 1 (cpS A (τ 31) (τ 25) (zt (τ 37) 13) (zt (τ 38) 13) (s7q (τ 41) 13) (A 1).toNat).2.1)) 37 (cpS A (τ 31) (τ 25) (zt (τ 37) 13) (zt (τ 38) 13) (s7q (τ 41) 13) (A 1).toNat).2.2.1) 38 (cpS A (τ 31) (τ 25) (zt (τ 37) 13) (zt (τ 38) 13) (s7q (τ 41) 13) (A 1).toNat).2.2.2.1) 41 (cpS A (τ 31) (τ 25) (zt (τ 37) 13) (zt (τ 38) 13) (s7q (τ 41) 13) (A 1).toNat).2.2.2.2) := by
  refine zc_start (own := RX6) (by decide +kernel) rfl (Nat.le_of_ble_eq_true rfl) ?_
  intro p e s m args below meth c C K hr hlk hnam
  have n2 := hR.l2.1
  refine hv_aload_n C 0 0 dX6_compare_0 rfl rfl ?_
  refine hv_iconst C dX6_compare_1 ?_
  refine zc_put C K 0 rfl hu_7 tyX6 tyX6_ok nmX6 (by decide) (cw_at 36 rfl) (cw_set 36 0 0 rfl) fl_X6_33 rfl rfl (ty := .int) (by decide +kernel) rfl rfl (Nat.le_of_ble_eq_true rfl) dX6_compare_2 ?_
  refine zt_st (τ2 := sA τ 36 (ua (τ 36) 0 0)) (by rw [u2_sA]; first | done | rfl) ?_
  refine hv_aload_n C 0 0 dX6_compare_5 rfl rfl ?_
  refine hv_iconst C dX6_compare_6 ?_
  refine zc_put C K 1 rfl hu_7 tyX6 tyX6_ok nmX6 (by decide) (cw_at 36 rfl) (cw_set 36 1 0 rfl) fl_X6_37 rfl rfl (ty := .int) (by decide +kernel) rfl rfl (Nat.le_of_ble_eq_true rfl) dX6_compare_7 ?_
  refine zt_st (τ2 := sA τ 36 (ua (ua (τ 36) 0 0) 1 0)) (by rw [u2_sA, sA_sA]; first | done | rfl) ?_
  refine hv_iconst C dX6_compare_10 ?_
  refine hv_istore C 4 [(4, .int (iz 0)), (0, .ref (b + 36)), (1, .ref (b + 1)), (2, .ref (b + 30)), (3, .ref (b + 24))] dX6_compare_11 (by decide) rfl ?_
  have L13 : ∀ (f : Nat) (v : Nat) (Q1 : Nat → Int) (Q2 : Nat → Int) (Q3 : Nat → Int), 13 - v < f → (v ≤ 13) → (Q1 = zt (τ 37) v) → (Q2 = zt (τ 38) v) → (Q3 = s7q (τ 41) v) → hvV p l e { frames := 3, cells := 0, slots := 0, locals := 69 } s m args below meth c 5 B 0 0 (MQ below (zc_Q D B (fun r' w' n' => r' = none ∧ w' = cw ar b (sA (sA (sA (sA τ 36 (ua (ua (τ 36) 0 (cpS A (τ 31) (τ 25) (zt (τ 37) 13) (zt (τ 38) 13) (s7q (τ 41) 13) (A 1).toNat).1) 1 (cpS A (τ 31) (τ 25) (zt (τ 37) 13) (zt (τ 38) 13) (s7q (τ 41) 13) (A 1).toNat).2.1)) 37 (cpS A (τ 31) (τ 25) (zt (τ 37) 13) (zt (τ 38) 13) (s7q (τ 41) 13) (A 1).toNat).2.2.1) 38 (cpS A (τ 31) (τ 25) (zt (τ 37) 13) (zt (τ 38) 13) (s7q (τ 41) 13) (A 1).toNat).2.2.2.1) 41 (cpS A (τ 31) (τ 25) (zt (τ 37) 13) (zt (τ 38) 13) (s7q (τ 41) 13) (A 1).toNat).2.2.2.2) w0 ∧ n' = n)) args s 0 0 B) (zc_I D B (cw ar b (sA (sA (sA (sA τ 36 (ua (ua (τ 36) 0 0) 1 0)) 37 Q1) 38 Q2) 41 Q3) w0) n s.heap) 13 [(0, .ref (b + 36)), (1, .ref (b + 1)), (2, .ref (b + 30)), (3, .ref (b + 24)), (4, .int (iz ((v : Nat) : Int)))] [] := by
    intro f
    induction f with
    | zero => intro _ _ _ _ hm; exact absurd hm (Nat.not_lt_zero _)
    | succ f ih13 =>
      intro v Q1 Q2 Q3 hm13 hv hQ1 hQ2 hQ3
      refine hv_iload C 4 4 dX6_compare_13 rfl ?_
      refine hv_bipush C dX6_compare_15 (by decide) ?_
      refine hv_icmp_gt C 51 dX6_compare_17 (by decide) (by omega) (by omega) (fun h17 => ?_) (fun h17 => ?_)
      · skip
        refine hv_iconst C dX6_compare_51 ?_
        refine hv_istore C 4 [(4, .int (iz 0)), (0, .ref (b + 36)), (1, .ref (b + 1)), (2, .ref (b + 30)), (3, .ref (b + 24))] dX6_compare_52 (by decide) rfl ?_
        have L54 : ∀ (f : Nat) (w : Nat) (pd9 : Int) (pt9 : Int) (Pl : Nat → Int) (Pu : Nat → Int) (Sp : Nat → Int), (A 1).toNat - w < f → ((w : Int) ≤ A 1) → (cpS A (τ 31) (τ 25) Q1 Q2 Q3 w = (pd9, pt9, Pl, Pu, Sp)) → hvV p l e { frames := 3, cells := 0, slots := 0, locals := 69 } s m args below meth c 5 B 0 0 (MQ below (zc_Q D B (fun r' w' n' => r' = none ∧ w' = cw ar b (sA (sA (sA (sA τ 36 (ua (ua (τ 36) 0 (cpS A (τ 31) (τ 25) (zt (τ 37) 13) (zt (τ 38) 13) (s7q (τ 41) 13) (A 1).toNat).1) 1 (cpS A (τ 31) (τ 25) (zt (τ 37) 13) (zt (τ 38) 13) (s7q (τ 41) 13) (A 1).toNat).2.1)) 37 (cpS A (τ 31) (τ 25) (zt (τ 37) 13) (zt (τ 38) 13) (s7q (τ 41) 13) (A 1).toNat).2.2.1) 38 (cpS A (τ 31) (τ 25) (zt (τ 37) 13) (zt (τ 38) 13) (s7q (τ 41) 13) (A 1).toNat).2.2.2.1) 41 (cpS A (τ 31) (τ 25) (zt (τ 37) 13) (zt (τ 38) 13) (s7q (τ 41) 13) (A 1).toNat).2.2.2.2) w0 ∧ n' = n)) args s 0 0 B) (zc_I D B (cw ar b (sA (sA (sA (sA τ 36 (ua (ua (τ 36) 0 pd9) 1 pt9)) 37 Pl) 38 Pu) 41 Sp) w0) n s.heap) 54 [(0, .ref (b + 36)), (1, .ref (b + 1)), (2, .ref (b + 30)), (3, .ref (b + 24)), (4, .int (iz ((w : Nat) : Int)))] [] := by
          intro f
          induction f with
          | zero => intro _ _ _ _ _ _ hm; exact absurd hm (Nat.not_lt_zero _)
          | succ f ih54 =>
            intro w pd9 pt9 Pl Pu Sp hm54 hw hcp
            refine hv_iload C 4 4 dX6_compare_54 rfl ?_
            refine hv_aload_n C 1 1 dX6_compare_56 rfl rfl ?_
            refine zc_get C K (v := .ref (b + 2)) 1 rfl hu_9 (by decide) (cw_at 1 rfl) rfl fl_X6_40 rfl dX6_compare_57 ?_
            refine zt_callV [] [.int (iz ((w : Nat) : Int))] C K (cw_at 2 rfl) rfl (k_Jx4a65c_size_8abf5 l 2 (sA (sA (sA (sA τ 36 (ua (ua (τ 36) 0 pd9) 1 pt9)) 37 Pl) 38 Pu) 41 Sp)  rfl) ck_X6_46 (by decide) ⟨Nat.zero_le _, Nat.zero_le _⟩ rfl (Nat.le_of_ble_eq_true rfl) dX6_compare_60 ?_
            refine hv_as ((τ 2 2)) rfl ?_
            refine hv_nm (fun x1 ex1 => ?_)
            have rx1 : inI x1 := by rw [ex1]; exact (by have z := hA 1; omega)
            refine hv_icmp_ge C 127 dX6_compare_63 (by decide) (by omega) (by omega) (fun h63 => ?_) (fun h63 => ?_)
            · skip
              exact zt_vret C hr hlk (by rw [show v = 13 by omega] at hQ1 hQ2 hQ3; rw [show w = (A 1).toNat by omega] at hcp; rw [← hQ1, ← hQ2, ← hQ3, hcp]) dX6_compare_127
            · skip
              have zw := hwi w (by omega)
              refine hv_aload_n C 0 0 dX6_compare_66 rfl rfl ?_
              refine hv_iload C 4 4 dX6_compare_67 rfl ?_
              refine hv_aload_n C 1 1 dX6_compare_69 rfl rfl ?_
              refine zc_get C K (v := .ref (b + 2)) 1 rfl hu_9 (by decide) (cw_at 1 rfl) rfl fl_X6_40 rfl dX6_compare_70 ?_
              refine hv_iload C 4 4 dX6_compare_73 rfl ?_
              obtain ⟨p2, i2, o2⟩ := ((by repeat (first | exact hR | refine rl_sA (by decide) ?_)) : Rel9 ar b w0 A (sA (sA (sA (sA τ 36 (ua (ua (τ 36) 0 pd9) 1 pt9)) 37 Pl) 38 Pu) 41 Sp)).l2.2 w (by omega)
              refine zt_callV [.int (iz ((w : Nat) : Int))] [.int (iz ((w : Nat) : Int)), .ref (b + 36)] C K (cw_at 2 rfl) rfl (k_Jx4a65c_get_915e3 l 2 p2 (sA (sA (sA (sA τ 36 (ua (ua (τ 36) 0 pd9) 1 pt9)) 37 Pl) 38 Pu) 41 Sp) w rfl i2) ck_X6_52 (by decide) ⟨Nat.zero_le _, Nat.zero_le _⟩ rfl (Nat.le_of_ble_eq_true rfl) dX6_compare_75 ?_
              refine zc_cast C K (cw_ob o2) (hc := rfl) cl_X6_56 dX6_compare_78 ?_
              refine zc_get C K (v := .int (iz (A (30 + 4 * w + 3)))) 3 rfl hu_10 (by decide) (cw_ob o2) rfl fl_X6_58 rfl dX6_compare_81 ?_
              refine hv_nm (fun x3 ex3 => ?_)
              have rx3 : inI x3 := by rw [ex3]; exact (hA _)
              refine hv_aload_n C 2 2 dX6_compare_84 rfl rfl ?_
              refine hv_aload_n C 3 3 dX6_compare_85 rfl rfl ?_
              refine zt_callV [.int (iz ((w : Nat) : Int)), .int (iz x3), .ref (b + 30), .ref (b + 24)] [] C K (cw_at 36 rfl) rfl (k_X6_compareWire l  (sA (sA (sA (sA τ 36 (ua (ua (τ 36) 0 pd9) 1 pt9)) 37 Pl) 38 Pu) 41 Sp) w x3 (by omega) hs25 hs31) ck_X6_61 (by decide) ⟨Nat.zero_le _, Nat.zero_le _⟩ rfl (Nat.le_of_ble_eq_true rfl) dX6_compare_86 ?_
              refine zt_st (τ2 := sA (sA (sA (sA τ 36 (ua (ua (τ 36) 0 pd9) 1 pt9)) 37 (ua Pl w (Pl w + (cwZ9 (τ 31) (τ 25) w 24).2.1))) 38 (ua Pu w (Pu w + (cwZ9 (τ 31) (τ 25) w 24).2.2))) 41 (ua Sp w (x3 - (cwZ9 (τ 31) (τ 25) w 24).1))) (by first | rfl | (funext j9; by_cases hj36 : j9 = 36; (subst hj36; first | rfl | exact ua_ua | (funext i9; simp only [sA, ua]; (repeat' split) <;> first | rfl | (exfalso; omega) | (subst_vars; rfl))); by_cases hj37 : j9 = 37; (subst hj37; first | rfl | exact ua_ua | (funext i9; simp only [sA, ua]; (repeat' split) <;> first | rfl | (exfalso; omega) | (subst_vars; rfl))); by_cases hj38 : j9 = 38; (subst hj38; first | rfl | exact ua_ua | (funext i9; simp only [sA, ua]; (repeat' split) <;> first | rfl | (exfalso; omega) | (subst_vars; rfl))); by_cases hj41 : j9 = 41; (subst hj41; first | rfl | exact ua_ua | (funext i9; simp only [sA, ua]; (repeat' split) <;> first | rfl | (exfalso; omega) | (subst_vars; rfl))); simp only [sA, if_neg hj36, if_neg hj37, if_neg hj38, if_neg hj41])) ?_
              refine hv_aload_n C 0 0 dX6_compare_89 rfl rfl ?_
              refine hv_dup C dX6_compare_90 rfl ?_
              refine zc_get C K (v := .int (iz pd9)) 0 rfl hu_7 (by decide) (cw_at 36 rfl) rfl fl_X6_33 rfl dX6_compare_91 ?_
              refine hv_aload_n C 0 0 dX6_compare_94 rfl rfl ?_
              refine zc_get C K (v := .ref (b + 37)) 2 rfl hu_7 (by decide) (cw_at 36 rfl) rfl fl_X6_9 rfl dX6_compare_95 ?_
              refine hv_iload C 4 4 dX6_compare_98 rfl ?_
              refine zc_iald C K (f := (ua Pl w (Pl w + (cwZ9 (τ 31) (τ 25) w 24).2.1))) w (cw_at 37 rfl) (by omega) (by omega) (by decide) dX6_compare_100 ?_
              refine hv_iadd C dX6_compare_101 ?_
              refine zc_put C K 0 rfl hu_7 tyX6 tyX6_ok nmX6 (by decide) (cw_at 36 rfl) (cw_set 36 0 (pd9 + ((ua Pl w (Pl w + (cwZ9 (τ 31) (τ 25) w 24).2.1)) w)) rfl) fl_X6_33 rfl rfl (ty := .int) (by decide +kernel) rfl rfl (Nat.le_of_ble_eq_true rfl) dX6_compare_102 ?_
              refine zt_st (τ2 := sA (sA (sA (sA τ 36 (ua (ua (τ 36) 0 (pd9 + ((ua Pl w (Pl w + (cwZ9 (τ 31) (τ 25) w 24).2.1)) w))) 1 pt9)) 37 (ua Pl w (Pl w + (cwZ9 (τ 31) (τ 25) w 24).2.1))) 38 (ua Pu w (Pu w + (cwZ9 (τ 31) (τ 25) w 24).2.2))) 41 (ua Sp w (x3 - (cwZ9 (τ 31) (τ 25) w 24).1))) (by rw [u2_sA, sA_comm (j := 41) (k := 36) (by decide), sA_comm (j := 38) (k := 36) (by decide), sA_comm (j := 37) (k := 36) (by decide), sA_sA]; rw [show (sA (sA (sA (sA τ 36 (ua (ua (τ 36) 0 pd9) 1 pt9)) 37 (ua Pl w (Pl w + (cwZ9 (τ 31) (τ 25) w 24).2.1))) 38 (ua Pu w (Pu w + (cwZ9 (τ 31) (τ 25) w 24).2.2))) 41 (ua Sp w (x3 - (cwZ9 (τ 31) (τ 25) w 24).1))) 36 = (ua (ua (τ 36) 0 pd9) 1 pt9) from rfl, ua_comm (i := 1) (k := 0) (by decide), ua_ua]; first | done | rfl) ?_
              refine hv_aload_n C 0 0 dX6_compare_105 rfl rfl ?_
              refine hv_dup C dX6_compare_106 rfl ?_
              refine zc_get C K (v := .int (iz pt9)) 1 rfl hu_7 (by decide) (cw_at 36 rfl) rfl fl_X6_37 rfl dX6_compare_107 ?_
              refine hv_aload_n C 0 0 dX6_compare_110 rfl rfl ?_
              refine zc_get C K (v := .ref (b + 38)) 3 rfl hu_7 (by decide) (cw_at 36 rfl) rfl fl_X6_15 rfl dX6_compare_111 ?_
              refine hv_iload C 4 4 dX6_compare_114 rfl ?_
              refine zc_iald C K (f := (ua Pu w (Pu w + (cwZ9 (τ 31) (τ 25) w 24).2.2))) w (cw_at 38 rfl) (by omega) (by omega) (by decide) dX6_compare_116 ?_
              refine hv_iadd C dX6_compare_117 ?_
              refine zc_put C K 1 rfl hu_7 tyX6 tyX6_ok nmX6 (by decide) (cw_at 36 rfl) (cw_set 36 1 (pt9 + ((ua Pu w (Pu w + (cwZ9 (τ 31) (τ 25) w 24).2.2)) w)) rfl) fl_X6_37 rfl rfl (ty := .int) (by decide +kernel) rfl rfl (Nat.le_of_ble_eq_true rfl) dX6_compare_118 ?_
              refine zt_st (τ2 := sA (sA (sA (sA τ 36 (ua (ua (τ 36) 0 (pd9 + ((ua Pl w (Pl w + (cwZ9 (τ 31) (τ 25) w 24).2.1)) w))) 1 (pt9 + ((ua Pu w (Pu w + (cwZ9 (τ 31) (τ 25) w 24).2.2)) w)))) 37 (ua Pl w (Pl w + (cwZ9 (τ 31) (τ 25) w 24).2.1))) 38 (ua Pu w (Pu w + (cwZ9 (τ 31) (τ 25) w 24).2.2))) 41 (ua Sp w (x3 - (cwZ9 (τ 31) (τ 25) w 24).1))) (by rw [u2_sA, sA_comm (j := 41) (k := 36) (by decide), sA_comm (j := 38) (k := 36) (by decide), sA_comm (j := 37) (k := 36) (by decide), sA_sA]; rw [show (sA (sA (sA (sA τ 36 (ua (ua (τ 36) 0 (pd9 + ((ua Pl w (Pl w + (cwZ9 (τ 31) (τ 25) w 24).2.1)) w))) 1 pt9)) 37 (ua Pl w (Pl w + (cwZ9 (τ 31) (τ 25) w 24).2.1))) 38 (ua Pu w (Pu w + (cwZ9 (τ 31) (τ 25) w 24).2.2))) 41 (ua Sp w (x3 - (cwZ9 (τ 31) (τ 25) w 24).1))) 36 = (ua (ua (τ 36) 0 (pd9 + ((ua Pl w (Pl w + (cwZ9 (τ 31) (τ 25) w 24).2.1)) w))) 1 pt9) from rfl, ua_ua]; first | done | rfl) ?_
              refine hv_iinc C 4 4 [(4, .int (iz (((w : Nat) : Int) + 1))), (0, .ref (b + 36)), (1, .ref (b + 1)), (2, .ref (b + 30)), (3, .ref (b + 24))] dX6_compare_121 rfl (by decide) rfl ?_
              refine hv_goto C 54 dX6_compare_124 (by decide) ?_
              refine hv_loc [1, 2, 3, 4, 0] [(0, .ref (b + 36)), (1, .ref (b + 1)), (2, .ref (b + 30)), (3, .ref (b + 24)), (4, .int (iz (((w : Nat) : Int) + 1)))] rfl ?_
              exact ih54 (w + 1) (pd9 + ((ua Pl w (Pl w + (cwZ9 (τ 31) (τ 25) w 24).2.1)) w)) (pt9 + ((ua Pu w (Pu w + (cwZ9 (τ 31) (τ 25) w 24).2.2)) w)) (ua Pl w (Pl w + (cwZ9 (τ 31) (τ 25) w 24).2.1)) (ua Pu w (Pu w + (cwZ9 (τ 31) (τ 25) w 24).2.2)) (ua Sp w (x3 - (cwZ9 (τ 31) (τ 25) w 24).1)) (by omega) (by omega) (cpS_s hcp rfl rfl (by assumption))
        refine hv_loc [1, 2, 3, 4, 0] [(0, .ref (b + 36)), (1, .ref (b + 1)), (2, .ref (b + 30)), (3, .ref (b + 24)), (4, .int (iz 0))] rfl ?_
        exact L54 _ 0 0 0 Q1 Q2 Q3 (Nat.lt_succ_self _) (by omega) rfl
      · skip
        refine hv_aload_n C 0 0 dX6_compare_20 rfl rfl ?_
        refine zc_get C K (v := .ref (b + 37)) 2 rfl hu_7 (by decide) (cw_at 36 rfl) rfl fl_X6_9 rfl dX6_compare_21 ?_
        refine hv_iload C 4 4 dX6_compare_24 rfl ?_
        refine hv_iconst C dX6_compare_26 ?_
        refine zc_iast C K (f := Q1) v (cw_at 37 rfl) (cw_set 37 v 0 rfl) (by omega) (by omega) (by decide) dX6_compare_27 ?_
        refine zt_st (τ2 := sA (sA (sA (sA τ 36 (ua (ua (τ 36) 0 0) 1 0)) 37 (ua Q1 v 0)) 38 Q2) 41 Q3) (by rw [u2_sA, sA_comm (j := 41) (k := 37) (by decide), sA_comm (j := 38) (k := 37) (by decide), sA_sA]; first | done | rfl) ?_
        refine hv_aload_n C 0 0 dX6_compare_28 rfl rfl ?_
        refine zc_get C K (v := .ref (b + 38)) 3 rfl hu_7 (by decide) (cw_at 36 rfl) rfl fl_X6_15 rfl dX6_compare_29 ?_
        refine hv_iload C 4 4 dX6_compare_32 rfl ?_
        refine hv_iconst C dX6_compare_34 ?_
        refine zc_iast C K (f := Q2) v (cw_at 38 rfl) (cw_set 38 v 0 rfl) (by omega) (by omega) (by decide) dX6_compare_35 ?_
        refine zt_st (τ2 := sA (sA (sA (sA τ 36 (ua (ua (τ 36) 0 0) 1 0)) 37 (ua Q1 v 0)) 38 (ua Q2 v 0)) 41 Q3) (by rw [u2_sA, sA_comm (j := 41) (k := 38) (by decide), sA_sA]; first | done | rfl) ?_
        refine hv_aload_n C 0 0 dX6_compare_36 rfl rfl ?_
        refine zc_get C K (v := .ref (b + 41)) 6 rfl hu_7 (by decide) (cw_at 36 rfl) rfl fl_X6_24 rfl dX6_compare_37 ?_
        refine hv_iload C 4 4 dX6_compare_40 rfl ?_
        refine hv_bipush C dX6_compare_42 (by decide) ?_
        refine zc_iast C K (f := Q3) v (cw_at 41 rfl) (cw_set 41 v 7 rfl) (by omega) (by omega) (by decide) dX6_compare_44 ?_
        refine zt_st (τ2 := sA (sA (sA (sA τ 36 (ua (ua (τ 36) 0 0) 1 0)) 37 (ua Q1 v 0)) 38 (ua Q2 v 0)) 41 (ua Q3 v 7)) (by rw [u2_sA, sA_sA]; first | done | rfl) ?_
        refine hv_iinc C 4 4 [(4, .int (iz (((v : Nat) : Int) + 1))), (0, .ref (b + 36)), (1, .ref (b + 1)), (2, .ref (b + 30)), (3, .ref (b + 24))] dX6_compare_45 rfl (by decide) rfl ?_
        refine hv_goto C 13 dX6_compare_48 (by decide) ?_
        refine hv_loc [1, 2, 3, 4, 0] [(0, .ref (b + 36)), (1, .ref (b + 1)), (2, .ref (b + 30)), (3, .ref (b + 24)), (4, .int (iz (((v : Nat) : Int) + 1)))] rfl ?_
        exact ih13 (v + 1) (ua Q1 v 0) (ua Q2 v 0) (ua Q3 v 7) (by omega) (by omega) (by rw [hQ1]; rfl) (by rw [hQ2]; rfl) (by rw [hQ3]; rfl)
  refine hv_loc [1, 2, 3, 4, 0] [(0, .ref (b + 36)), (1, .ref (b + 1)), (2, .ref (b + 30)), (3, .ref (b + 24)), (4, .int (iz 0))] rfl ?_
  refine zt_st (τ2 := sA (sA τ 36 (ua (ua (τ 36) 0 0) 1 0)) 37 (τ 37)) ((sA_id (sA τ 36 (ua (ua (τ 36) 0 0) 1 0)) 37).symm) ?_
  refine zt_st (τ2 := sA (sA (sA τ 36 (ua (ua (τ 36) 0 0) 1 0)) 37 (τ 37)) 38 (τ 38)) ((sA_id (sA (sA τ 36 (ua (ua (τ 36) 0 0) 1 0)) 37 (τ 37)) 38).symm) ?_
  refine zt_st (τ2 := sA (sA (sA (sA τ 36 (ua (ua (τ 36) 0 0) 1 0)) 37 (τ 37)) 38 (τ 38)) 41 (τ 41)) ((sA_id (sA (sA (sA τ 36 (ua (ua (τ 36) 0 0) 1 0)) 37 (τ 37)) 38 (τ 38)) 41).symm) ?_
  exact L13 _ 0 (τ 37) (τ 38) (τ 41) (Nat.lt_succ_self _) (by omega) rfl rfl rfl
theorem dX6_soonestHand_0 : decode cX6_soonestHand 0 = .ok (.iconst 0, 1) := by decide +kernel
theorem dX6_soonestHand_1 : decode cX6_soonestHand 1 = .ok (.istore_n 1, 1) := by decide +kernel
theorem dX6_soonestHand_2 : decode cX6_soonestHand 2 = .ok (.iconst 1, 1) := by decide +kernel
theorem dX6_soonestHand_3 : decode cX6_soonestHand 3 = .ok (.istore_n 2, 1) := by decide +kernel
theorem dX6_soonestHand_4 : decode cX6_soonestHand 4 = .ok (.iload_n 2, 1) := by decide +kernel
theorem dX6_soonestHand_5 : decode cX6_soonestHand 5 = .ok (.aload_n 0, 1) := by decide +kernel
theorem dX6_soonestHand_6 : decode cX6_soonestHand 6 = .ok (.getfield 71, 3) := by decide +kernel
theorem dX6_soonestHand_9 : decode cX6_soonestHand 9 = .ok (.if_icmp .ge 26, 3) := by decide +kernel
theorem dX6_soonestHand_12 : decode cX6_soonestHand 12 = .ok (.aload_n 0, 1) := by decide +kernel
theorem dX6_soonestHand_13 : decode cX6_soonestHand 13 = .ok (.getfield 30, 3) := by decide +kernel
theorem dX6_soonestHand_16 : decode cX6_soonestHand 16 = .ok (.iload_n 2, 1) := by decide +kernel
theorem dX6_soonestHand_17 : decode cX6_soonestHand 17 = .ok (.iaload, 1) := by decide +kernel
theorem dX6_soonestHand_18 : decode cX6_soonestHand 18 = .ok (.aload_n 0, 1) := by decide +kernel
theorem dX6_soonestHand_19 : decode cX6_soonestHand 19 = .ok (.getfield 30, 3) := by decide +kernel
theorem dX6_soonestHand_22 : decode cX6_soonestHand 22 = .ok (.iload_n 1, 1) := by decide +kernel
theorem dX6_soonestHand_23 : decode cX6_soonestHand 23 = .ok (.iaload, 1) := by decide +kernel
theorem dX6_soonestHand_24 : decode cX6_soonestHand 24 = .ok (.if_icmp .ge 5, 3) := by decide +kernel
theorem dX6_soonestHand_27 : decode cX6_soonestHand 27 = .ok (.iload_n 2, 1) := by decide +kernel
theorem dX6_soonestHand_28 : decode cX6_soonestHand 28 = .ok (.istore_n 1, 1) := by decide +kernel
theorem dX6_soonestHand_29 : decode cX6_soonestHand 29 = .ok (.iinc 2 1, 3) := by decide +kernel
theorem dX6_soonestHand_32 : decode cX6_soonestHand 32 = .ok (.goto (-28), 3) := by decide +kernel
theorem dX6_soonestHand_35 : decode cX6_soonestHand 35 = .ok (.iload_n 1, 1) := by decide +kernel
theorem dX6_soonestHand_36 : decode cX6_soonestHand 36 = .ok (.ireturn, 1) := by decide +kernel
theorem fl_X6_71 : Cond.fieldLink RX6 71 "HookUps$Shift" (TX6 9).2.1 (TX6 9).2.2.1 ∈ hk_tb := hk_tq2 8 (by decide +kernel) (by decide +kernel)
theorem fl_X6_30 : Cond.fieldLink RX6 30 "HookUps$Shift" (TX6 8).2.1 (TX6 8).2.2.1 ∈ hk_tb := hk_tq2 7 (by decide +kernel) (by decide +kernel)
set_option maxRecDepth 100000 in
set_option maxHeartbeats 4000000 in
theorem k_X6_soonestHand (l : Launch) {D : va_G} {ar : Nat → ClassId} {B : Nat → Prop} {b n : Nat} {w0 : zcW} (hn : Nat) (τ : Nat → Nat → Int)  (hhn : τ 36 9 = (hn : Int)) (hn3 : 1 ≤ hn ∧ hn ≤ 3) (hfr : ∀ i, i < 3 → inI (τ 43 i)) : zt_M l D ar B b w0 n yX6_soonestHand cX6_soonestHand 3 (some .int) 0 0 [.ref (b + 36)] τ (some (.int (iz ((sh9 (τ 43) (hn - 1) : Nat) : Int)))) (τ) := by
  refine zc_start (own := RX6) (by decide +kernel) rfl (Nat.le_of_ble_eq_true rfl) ?_
  intro p e s m args below meth c C K hr hlk hnam
  refine hv_iconst C dX6_soonestHand_0 ?_
  refine hv_istore_n C 1 [(1, .int (iz 0)), (0, .ref (b + 36))] dX6_soonestHand_1 rfl (by decide) rfl ?_
  refine hv_iconst C dX6_soonestHand_2 ?_
  refine hv_istore_n C 2 [(2, .int (iz 1)), (1, .int (iz 0)), (0, .ref (b + 36))] dX6_soonestHand_3 rfl (by decide) rfl ?_
  have L4 : ∀ (f : Nat) (so : Nat) (k : Nat), hn - k < f → (1 ≤ k ∧ k ≤ hn ∧ so < 3) → (so = sh9 (τ 43) (k - 1)) → hvV p l e { frames := 0, cells := 0, slots := 0, locals := 0 } s m args below meth c 3 B 0 0 (MQ below (zc_Q D B (fun r' w' n' => r' = (some (.int (iz ((sh9 (τ 43) (hn - 1) : Nat) : Int)))) ∧ w' = cw ar b (τ) w0 ∧ n' = n)) args s 0 0 B) (zc_I D B (cw ar b τ w0) n s.heap) 4 [(0, .ref (b + 36)), (1, .int (iz ((so : Nat) : Int))), (2, .int (iz ((k : Nat) : Int)))] [] := by
    intro f
    induction f with
    | zero => intro _ _ hm; exact absurd hm (Nat.not_lt_zero _)
    | succ f ih4 =>
      intro so k hm4 hk hso
      refine hv_iload_n C 2 2 dX6_soonestHand_4 rfl rfl ?_
      refine hv_aload_n C 0 0 dX6_soonestHand_5 rfl rfl ?_
      refine zc_get C K (v := .int (iz (τ 36 9))) 9 rfl hu_7 (by decide) (cw_at 36 rfl) rfl fl_X6_71 rfl dX6_soonestHand_6 ?_
      refine hv_nm (fun x1 ex1 => ?_)
      have rx1 : inI x1 := by rw [ex1]; exact (by omega)
      refine hv_icmp_ge C 35 dX6_soonestHand_9 (by decide) (by omega) (by omega) (fun h9 => ?_) (fun h9 => ?_)
      · skip
        refine hv_iload_n C 1 1 dX6_soonestHand_35 rfl rfl ?_
        exact zt_iret C hr hlk (by rw [hso, show k = hn by omega]) rfl dX6_soonestHand_36
      · skip
        refine hv_aload_n C 0 0 dX6_soonestHand_12 rfl rfl ?_
        refine zc_get C K (v := .ref (b + 43)) 8 rfl hu_7 (by decide) (cw_at 36 rfl) rfl fl_X6_30 rfl dX6_soonestHand_13 ?_
        refine hv_iload_n C 2 2 dX6_soonestHand_16 rfl rfl ?_
        refine zc_iald C K (f := (τ 43)) k (cw_at 43 rfl) (by omega) (by omega) (by decide) dX6_soonestHand_17 ?_
        refine hv_as (τ 43 k) rfl ?_
        refine hv_nm (fun x2 ex2 => ?_)
        have rx2 : inI x2 := by rw [ex2]; exact hfr k (by omega)
        refine hv_aload_n C 0 0 dX6_soonestHand_18 rfl rfl ?_
        refine zc_get C K (v := .ref (b + 43)) 8 rfl hu_7 (by decide) (cw_at 36 rfl) rfl fl_X6_30 rfl dX6_soonestHand_19 ?_
        refine hv_iload_n C 1 1 dX6_soonestHand_22 rfl rfl ?_
        refine zc_iald C K (f := (τ 43)) so (cw_at 43 rfl) (by omega) (by omega) (by decide) dX6_soonestHand_23 ?_
        refine hv_as (τ 43 so) rfl ?_
        refine hv_nm (fun x3 ex3 => ?_)
        have rx3 : inI x3 := by rw [ex3]; exact hfr so (by omega)
        refine hv_icmp_ge C 29 dX6_soonestHand_24 (by decide) (by omega) (by omega) (fun h24 => ?_) (fun h24 => ?_)
        · skip
          refine hv_iinc C 2 2 [(2, .int (iz (((k : Nat) : Int) + 1))), (0, .ref (b + 36)), (1, .int (iz ((so : Nat) : Int)))] dX6_soonestHand_29 rfl (by decide) rfl ?_
          refine hv_goto C 4 dX6_soonestHand_32 (by decide) ?_
          refine hv_loc [1, 2, 0] [(0, .ref (b + 36)), (1, .int (iz ((so : Nat) : Int))), (2, .int (iz (((k : Nat) : Int) + 1)))] rfl ?_
          exact ih4 so (k + 1) (by omega) (by omega) (by rw [show k + 1 - 1 = k by omega, sh9_s (by omega), ← hso]; first | (rw [if_pos (by omega)]; done) | (rw [if_neg (by omega)]; done))
        · skip
          refine hv_iload_n C 2 2 dX6_soonestHand_27 rfl rfl ?_
          refine hv_istore_n C 1 [(1, .int (iz ((k : Nat) : Int))), (0, .ref (b + 36)), (2, .int (iz ((k : Nat) : Int)))] dX6_soonestHand_28 rfl (by decide) rfl ?_
          refine hv_iinc C 2 2 [(2, .int (iz (((k : Nat) : Int) + 1))), (1, .int (iz ((k : Nat) : Int))), (0, .ref (b + 36))] dX6_soonestHand_29 rfl (by decide) rfl ?_
          refine hv_goto C 4 dX6_soonestHand_32 (by decide) ?_
          refine hv_loc [2, 1, 0] [(0, .ref (b + 36)), (1, .int (iz ((k : Nat) : Int))), (2, .int (iz (((k : Nat) : Int) + 1)))] rfl ?_
          exact ih4 k (k + 1) (by omega) (by omega) (by rw [show k + 1 - 1 = k by omega, sh9_s (by omega), ← hso]; first | (rw [if_pos (by omega)]; done) | (rw [if_neg (by omega)]; done))
  refine hv_loc [2, 1, 0] [(0, .ref (b + 36)), (1, .int (iz 0)), (2, .int (iz 1))] rfl ?_
  exact L4 _ 0 1 (Nat.lt_succ_self _) (by omega) rfl
theorem dX6_circuitFree_0 : decode cX6_circuitFree 0 = .ok (.aload_n 0, 1) := by decide +kernel
theorem dX6_circuitFree_1 : decode cX6_circuitFree 1 = .ok (.getfield 21, 3) := by decide +kernel
theorem dX6_circuitFree_4 : decode cX6_circuitFree 4 = .ok (.iload_n 1, 1) := by decide +kernel
theorem dX6_circuitFree_5 : decode cX6_circuitFree 5 = .ok (.iaload, 1) := by decide +kernel
theorem dX6_circuitFree_6 : decode cX6_circuitFree 6 = .ok (.iconst 1, 1) := by decide +kernel
theorem dX6_circuitFree_7 : decode cX6_circuitFree 7 = .ok (.iadd, 1) := by decide +kernel
theorem dX6_circuitFree_8 : decode cX6_circuitFree 8 = .ok (.aload_n 0, 1) := by decide +kernel
theorem dX6_circuitFree_9 : decode cX6_circuitFree 9 = .ok (.getfield 24, 3) := by decide +kernel
theorem dX6_circuitFree_12 : decode cX6_circuitFree 12 = .ok (.iload_n 1, 1) := by decide +kernel
theorem dX6_circuitFree_13 : decode cX6_circuitFree 13 = .ok (.iaload, 1) := by decide +kernel
theorem dX6_circuitFree_14 : decode cX6_circuitFree 14 = .ok (.isub, 1) := by decide +kernel
theorem dX6_circuitFree_15 : decode cX6_circuitFree 15 = .ok (.istore_n 2, 1) := by decide +kernel
theorem dX6_circuitFree_16 : decode cX6_circuitFree 16 = .ok (.iload_n 2, 1) := by decide +kernel
theorem dX6_circuitFree_17 : decode cX6_circuitFree 17 = .ok (.ifCond .gt 5, 3) := by decide +kernel
theorem dX6_circuitFree_20 : decode cX6_circuitFree 20 = .ok (.iconst 0, 1) := by decide +kernel
theorem dX6_circuitFree_21 : decode cX6_circuitFree 21 = .ok (.ireturn, 1) := by decide +kernel
theorem dX6_circuitFree_22 : decode cX6_circuitFree 22 = .ok (.iload_n 2, 1) := by decide +kernel
theorem dX6_circuitFree_23 : decode cX6_circuitFree 23 = .ok (.aload_n 0, 1) := by decide +kernel
theorem dX6_circuitFree_24 : decode cX6_circuitFree 24 = .ok (.getfield 18, 3) := by decide +kernel
theorem dX6_circuitFree_27 : decode cX6_circuitFree 27 = .ok (.iload_n 1, 1) := by decide +kernel
theorem dX6_circuitFree_28 : decode cX6_circuitFree 28 = .ok (.iaload, 1) := by decide +kernel
theorem dX6_circuitFree_29 : decode cX6_circuitFree 29 = .ok (.if_icmp .gt 19, 3) := by decide +kernel
theorem dX6_circuitFree_32 : decode cX6_circuitFree 32 = .ok (.aload_n 0, 1) := by decide +kernel
theorem dX6_circuitFree_33 : decode cX6_circuitFree 33 = .ok (.getfield 27, 3) := by decide +kernel
theorem dX6_circuitFree_36 : decode cX6_circuitFree 36 = .ok (.iload_n 1, 1) := by decide +kernel
theorem dX6_circuitFree_37 : decode cX6_circuitFree 37 = .ok (.bipush 7, 2) := by decide +kernel
theorem dX6_circuitFree_39 : decode cX6_circuitFree 39 = .ok (.imul, 1) := by decide +kernel
theorem dX6_circuitFree_40 : decode cX6_circuitFree 40 = .ok (.iload_n 2, 1) := by decide +kernel
theorem dX6_circuitFree_41 : decode cX6_circuitFree 41 = .ok (.iadd, 1) := by decide +kernel
theorem dX6_circuitFree_42 : decode cX6_circuitFree 42 = .ok (.iconst 1, 1) := by decide +kernel
theorem dX6_circuitFree_43 : decode cX6_circuitFree 43 = .ok (.isub, 1) := by decide +kernel
theorem dX6_circuitFree_44 : decode cX6_circuitFree 44 = .ok (.iaload, 1) := by decide +kernel
theorem dX6_circuitFree_45 : decode cX6_circuitFree 45 = .ok (.goto 4, 3) := by decide +kernel
theorem dX6_circuitFree_48 : decode cX6_circuitFree 48 = .ok (.iconst (-1), 1) := by decide +kernel
theorem dX6_circuitFree_49 : decode cX6_circuitFree 49 = .ok (.ireturn, 1) := by decide +kernel
theorem fl_X6_21 : Cond.fieldLink RX6 21 "HookUps$Shift" (TX6 5).2.1 (TX6 5).2.2.1 ∈ hk_tb := hk_tq2 4 (by decide +kernel) (by decide +kernel)
theorem fl_X6_18 : Cond.fieldLink RX6 18 "HookUps$Shift" (TX6 4).2.1 (TX6 4).2.2.1 ∈ hk_tb := hk_tq2 3 (by decide +kernel) (by decide +kernel)
theorem fl_X6_27 : Cond.fieldLink RX6 27 "HookUps$Shift" (TX6 7).2.1 (TX6 7).2.2.1 ∈ hk_tb := hk_tq2 6 (by decide +kernel) (by decide +kernel)
set_option maxRecDepth 100000 in
set_option maxHeartbeats 4000000 in
theorem k_X6_circuitFree (l : Launch) {D : va_G} {ar : Nat → ClassId} {B : Nat → Prop} {b n : Nat} {w0 : zcW}  (τ : Nat → Nat → Int) (w : Nat) (hw : w < 13) (h40 : 0 ≤ τ 40 w ∧ τ 40 w ≤ 7) (h41 : -100 ≤ τ 41 w ∧ τ 41 w ≤ 100) (h39 : 0 ≤ τ 39 w ∧ τ 39 w ≤ 7) : zt_M l D ar B b w0 n yX6_circuitFree cX6_circuitFree 3 (some .int) 0 0 [.ref (b + 36), .int (iz ((w : Nat) : Int))] τ (some (.int (iz (zbC (τ 40) (τ 39) (τ 41) (τ 42) w)))) (τ) := by
  refine zc_start (own := RX6) (by decide +kernel) rfl (Nat.le_of_ble_eq_true rfl) ?_
  intro p e s m args below meth c C K hr hlk hnam
  refine hv_aload_n C 0 0 dX6_circuitFree_0 rfl rfl ?_
  refine zc_get C K (v := .ref (b + 40)) 5 rfl hu_7 (by decide) (cw_at 36 rfl) rfl fl_X6_21 rfl dX6_circuitFree_1 ?_
  refine hv_iload_n C 1 1 dX6_circuitFree_4 rfl rfl ?_
  refine zc_iald C K (f := (τ 40)) w (cw_at 40 rfl) (by omega) (by omega) (by decide) dX6_circuitFree_5 ?_
  refine hv_as (τ 40 w) rfl ?_
  refine hv_nm (fun x1 ex1 => ?_)
  refine hv_iconst C dX6_circuitFree_6 ?_
  refine hv_iadd C dX6_circuitFree_7 ?_
  refine hv_aload_n C 0 0 dX6_circuitFree_8 rfl rfl ?_
  refine zc_get C K (v := .ref (b + 41)) 6 rfl hu_7 (by decide) (cw_at 36 rfl) rfl fl_X6_24 rfl dX6_circuitFree_9 ?_
  refine hv_iload_n C 1 1 dX6_circuitFree_12 rfl rfl ?_
  refine zc_iald C K (f := (τ 41)) w (cw_at 41 rfl) (by omega) (by omega) (by decide) dX6_circuitFree_13 ?_
  refine hv_as (τ 41 w) rfl ?_
  refine hv_nm (fun x2 ex2 => ?_)
  refine hv_isub C dX6_circuitFree_14 ?_
  refine hv_istore_n C 2 [(2, .int (iz ((x1 + 1) - x2))), (0, .ref (b + 36)), (1, .int (iz ((w : Nat) : Int)))] dX6_circuitFree_15 rfl (by decide) rfl ?_
  refine hv_iload_n C 2 0 dX6_circuitFree_16 rfl rfl ?_
  refine hv_if_gt C 22 dX6_circuitFree_17 (by decide) (by omega) (fun h17 => ?_) (fun h17 => ?_)
  · skip
    refine hv_iload_n C 2 0 dX6_circuitFree_22 rfl rfl ?_
    refine hv_aload_n C 0 1 dX6_circuitFree_23 rfl rfl ?_
    refine zc_get C K (v := .ref (b + 39)) 4 rfl hu_7 (by decide) (cw_at 36 rfl) rfl fl_X6_18 rfl dX6_circuitFree_24 ?_
    refine hv_iload_n C 1 2 dX6_circuitFree_27 rfl rfl ?_
    refine zc_iald C K (f := (τ 39)) w (cw_at 39 rfl) (by omega) (by omega) (by decide) dX6_circuitFree_28 ?_
    refine hv_as (τ 39 w) rfl ?_
    refine hv_nm (fun x3 ex3 => ?_)
    refine hv_icmp_gt C 48 dX6_circuitFree_29 (by decide) (by omega) (by omega) (fun h29 => ?_) (fun h29 => ?_)
    · skip
      refine hv_iconst C dX6_circuitFree_48 ?_
      exact zt_iret C hr hlk (by unfold zbC; first | exact if_p (by omega) rfl | (refine if_n (by omega) ?_; first | exact if_p (by omega) rfl | exact if_n (by omega) rfl)) rfl dX6_circuitFree_49
    · skip
      refine hv_aload_n C 0 1 dX6_circuitFree_32 rfl rfl ?_
      refine zc_get C K (v := .ref (b + 42)) 7 rfl hu_7 (by decide) (cw_at 36 rfl) rfl fl_X6_27 rfl dX6_circuitFree_33 ?_
      refine hv_iload_n C 1 2 dX6_circuitFree_36 rfl rfl ?_
      refine hv_bipush C dX6_circuitFree_37 (by decide) ?_
      refine hv_imul C dX6_circuitFree_39 ?_
      refine hv_iload_n C 2 0 dX6_circuitFree_40 rfl rfl ?_
      refine hv_iadd C dX6_circuitFree_41 ?_
      refine hv_iconst C dX6_circuitFree_42 ?_
      refine hv_isub C dX6_circuitFree_43 ?_
      refine hv_as (((7 * w + (τ 40 w + 1 - τ 41 w).toNat - 1 : Nat) : Int)) (by omega) ?_
      refine zc_iald C K (f := (τ 42)) (7 * w + (τ 40 w + 1 - τ 41 w).toNat - 1) (cw_at 42 rfl) (by omega) (by omega) (by decide) dX6_circuitFree_44 ?_
      refine hv_as (τ 42 (7 * w + (τ 40 w + 1 - τ 41 w).toNat - 1)) rfl ?_
      refine hv_goto C 49 dX6_circuitFree_45 (by decide) ?_
      exact zt_iret C hr hlk (by unfold zbC; first | exact if_p (by omega) rfl | (refine if_n (by omega) ?_; first | exact if_p (by omega) rfl | exact if_n (by omega) rfl)) rfl dX6_circuitFree_49
  · skip
    refine hv_iconst C dX6_circuitFree_20 ?_
    exact zt_iret C hr hlk (by unfold zbC; first | exact if_p (by omega) rfl | (refine if_n (by omega) ?_; first | exact if_p (by omega) rfl | exact if_n (by omega) rfl)) rfl dX6_circuitFree_21
theorem dX6_widen_0 : decode cX6_widen 0 = .ok (.iconst 0, 1) := by decide +kernel
theorem dX6_widen_1 : decode cX6_widen 1 = .ok (.istore_n 1, 1) := by decide +kernel
theorem dX6_widen_2 : decode cX6_widen 2 = .ok (.iload_n 1, 1) := by decide +kernel
theorem dX6_widen_3 : decode cX6_widen 3 = .ok (.bipush 12, 2) := by decide +kernel
theorem dX6_widen_5 : decode cX6_widen 5 = .ok (.if_icmp .gt 90, 3) := by decide +kernel
theorem dX6_widen_8 : decode cX6_widen 8 = .ok (.aload_n 0, 1) := by decide +kernel
theorem dX6_widen_9 : decode cX6_widen 9 = .ok (.getfield 18, 3) := by decide +kernel
theorem dX6_widen_12 : decode cX6_widen 12 = .ok (.iload_n 1, 1) := by decide +kernel
theorem dX6_widen_13 : decode cX6_widen 13 = .ok (.iconst 0, 1) := by decide +kernel
theorem dX6_widen_14 : decode cX6_widen 14 = .ok (.iastore, 1) := by decide +kernel
theorem dX6_widen_15 : decode cX6_widen 15 = .ok (.aload_n 0, 1) := by decide +kernel
theorem dX6_widen_16 : decode cX6_widen 16 = .ok (.getfield 21, 3) := by decide +kernel
theorem dX6_widen_19 : decode cX6_widen 19 = .ok (.iload_n 1, 1) := by decide +kernel
theorem dX6_widen_20 : decode cX6_widen 20 = .ok (.iconst 0, 1) := by decide +kernel
theorem dX6_widen_21 : decode cX6_widen 21 = .ok (.iastore, 1) := by decide +kernel
theorem dX6_widen_22 : decode cX6_widen 22 = .ok (.iload_n 1, 1) := by decide +kernel
theorem dX6_widen_23 : decode cX6_widen 23 = .ok (.bipush 12, 2) := by decide +kernel
theorem dX6_widen_25 : decode cX6_widen 25 = .ok (.if_icmp .eq 64, 3) := by decide +kernel
theorem dX6_widen_28 : decode cX6_widen 28 = .ok (.aload_n 0, 1) := by decide +kernel
theorem dX6_widen_29 : decode cX6_widen 29 = .ok (.getfield 15, 3) := by decide +kernel
theorem dX6_widen_32 : decode cX6_widen 32 = .ok (.iload_n 1, 1) := by decide +kernel
theorem dX6_widen_33 : decode cX6_widen 33 = .ok (.iaload, 1) := by decide +kernel
theorem dX6_widen_34 : decode cX6_widen 34 = .ok (.aload_n 0, 1) := by decide +kernel
theorem dX6_widen_35 : decode cX6_widen 35 = .ok (.getfield 24, 3) := by decide +kernel
theorem dX6_widen_38 : decode cX6_widen 38 = .ok (.iload_n 1, 1) := by decide +kernel
theorem dX6_widen_39 : decode cX6_widen 39 = .ok (.iaload, 1) := by decide +kernel
theorem dX6_widen_40 : decode cX6_widen 40 = .ok (.if_icmp .gt 49, 3) := by decide +kernel
theorem dX6_widen_43 : decode cX6_widen 43 = .ok (.aload_n 0, 1) := by decide +kernel
theorem dX6_widen_44 : decode cX6_widen 44 = .ok (.getfield 9, 3) := by decide +kernel
theorem dX6_widen_47 : decode cX6_widen 47 = .ok (.bipush 12, 2) := by decide +kernel
theorem dX6_widen_49 : decode cX6_widen 49 = .ok (.dup2, 1) := by decide +kernel
theorem dX6_widen_50 : decode cX6_widen 50 = .ok (.iaload, 1) := by decide +kernel
theorem dX6_widen_51 : decode cX6_widen 51 = .ok (.aload_n 0, 1) := by decide +kernel
theorem dX6_widen_52 : decode cX6_widen 52 = .ok (.getfield 9, 3) := by decide +kernel
theorem dX6_widen_55 : decode cX6_widen 55 = .ok (.iload_n 1, 1) := by decide +kernel
theorem dX6_widen_56 : decode cX6_widen 56 = .ok (.iaload, 1) := by decide +kernel
theorem dX6_widen_57 : decode cX6_widen 57 = .ok (.iadd, 1) := by decide +kernel
theorem dX6_widen_58 : decode cX6_widen 58 = .ok (.iastore, 1) := by decide +kernel
theorem dX6_widen_59 : decode cX6_widen 59 = .ok (.aload_n 0, 1) := by decide +kernel
theorem dX6_widen_60 : decode cX6_widen 60 = .ok (.getfield 15, 3) := by decide +kernel
theorem dX6_widen_63 : decode cX6_widen 63 = .ok (.bipush 12, 2) := by decide +kernel
theorem dX6_widen_65 : decode cX6_widen 65 = .ok (.dup2, 1) := by decide +kernel
theorem dX6_widen_66 : decode cX6_widen 66 = .ok (.iaload, 1) := by decide +kernel
theorem dX6_widen_67 : decode cX6_widen 67 = .ok (.aload_n 0, 1) := by decide +kernel
theorem dX6_widen_68 : decode cX6_widen 68 = .ok (.getfield 15, 3) := by decide +kernel
theorem dX6_widen_71 : decode cX6_widen 71 = .ok (.iload_n 1, 1) := by decide +kernel
theorem dX6_widen_72 : decode cX6_widen 72 = .ok (.iaload, 1) := by decide +kernel
theorem dX6_widen_73 : decode cX6_widen 73 = .ok (.iadd, 1) := by decide +kernel
theorem dX6_widen_74 : decode cX6_widen 74 = .ok (.iastore, 1) := by decide +kernel
theorem dX6_widen_75 : decode cX6_widen 75 = .ok (.aload_n 0, 1) := by decide +kernel
theorem dX6_widen_76 : decode cX6_widen 76 = .ok (.getfield 9, 3) := by decide +kernel
theorem dX6_widen_79 : decode cX6_widen 79 = .ok (.iload_n 1, 1) := by decide +kernel
theorem dX6_widen_80 : decode cX6_widen 80 = .ok (.iconst 0, 1) := by decide +kernel
theorem dX6_widen_81 : decode cX6_widen 81 = .ok (.iastore, 1) := by decide +kernel
theorem dX6_widen_82 : decode cX6_widen 82 = .ok (.aload_n 0, 1) := by decide +kernel
theorem dX6_widen_83 : decode cX6_widen 83 = .ok (.getfield 15, 3) := by decide +kernel
theorem dX6_widen_86 : decode cX6_widen 86 = .ok (.iload_n 1, 1) := by decide +kernel
theorem dX6_widen_87 : decode cX6_widen 87 = .ok (.iconst 0, 1) := by decide +kernel
theorem dX6_widen_88 : decode cX6_widen 88 = .ok (.iastore, 1) := by decide +kernel
theorem dX6_widen_89 : decode cX6_widen 89 = .ok (.iinc 1 1, 3) := by decide +kernel
theorem dX6_widen_92 : decode cX6_widen 92 = .ok (.goto (-90), 3) := by decide +kernel
theorem dX6_widen_95 : decode cX6_widen 95 = .ok (.return_, 1) := by decide +kernel
set_option maxRecDepth 100000 in
set_option maxHeartbeats 4000000 in
theorem k_X6_widen (l : Launch) {D : va_G} {ar : Nat → ClassId} {B : Nat → Prop} {b n : Nat} {w0 : zcW}  (τ : Nat → Nat → Int)  (h38 : ∀ i, i < 12 → inI (τ 38 i)) (h41 : ∀ i, i < 12 → inI (τ 41 i)) : zt_M l D ar B b w0 n yX6_widen cX6_widen 2 none 0 0 [.ref (b + 36)] τ none (sA (sA (sA (sA τ 37 (wdS (τ 37) (τ 38) (τ 41) 13).1) 38 (wdS (τ 37) (τ 38) (τ 41) 13).2) 39 (zt (τ 39) 13)) 40 (zt (τ 40) 13)) := by
  refine zc_start (own := RX6) (by decide +kernel) rfl (Nat.le_of_ble_eq_true rfl) ?_
  intro p e s m args below meth c C K hr hlk hnam
  refine hv_iconst C dX6_widen_0 ?_
  refine hv_istore_n C 1 [(1, .int (iz 0)), (0, .ref (b + 36))] dX6_widen_1 rfl (by decide) rfl ?_
  have L2 : ∀ (f : Nat) (v : Nat) (P7 : Nat → Int) (P8 : Nat → Int) (B1 : Nat → Int) (B2 : Nat → Int), 13 - v < f → (v ≤ 13) → (wdS (τ 37) (τ 38) (τ 41) v = (P7, P8)) → (B1 = zt (τ 39) v) → (B2 = zt (τ 40) v) → (∀ i, v ≤ i → i < 12 → P8 i = τ 38 i) → hvV p l e { frames := 0, cells := 0, slots := 0, locals := 0 } s m args below meth c 2 B 0 0 (MQ below (zc_Q D B (fun r' w' n' => r' = none ∧ w' = cw ar b (sA (sA (sA (sA τ 37 (wdS (τ 37) (τ 38) (τ 41) 13).1) 38 (wdS (τ 37) (τ 38) (τ 41) 13).2) 39 (zt (τ 39) 13)) 40 (zt (τ 40) 13)) w0 ∧ n' = n)) args s 0 0 B) (zc_I D B (cw ar b (sA (sA (sA (sA τ 37 P7) 38 P8) 39 B1) 40 B2) w0) n s.heap) 2 [(0, .ref (b + 36)), (1, .int (iz ((v : Nat) : Int)))] [] := by
    intro f
    induction f with
    | zero => intro _ _ _ _ _ hm; exact absurd hm (Nat.not_lt_zero _)
    | succ f ih2 =>
      intro v P7 P8 B1 B2 hm2 hv hwd hB1 hB2 hPu
      refine hv_iload_n C 1 1 dX6_widen_2 rfl rfl ?_
      refine hv_bipush C dX6_widen_3 (by decide) ?_
      refine hv_icmp_gt C 95 dX6_widen_5 (by decide) (by omega) (by omega) (fun h5 => ?_) (fun h5 => ?_)
      · skip
        exact zt_vret C hr hlk (by rw [show v = 13 by omega] at hwd hB1 hB2; rw [hwd, hB1, hB2]) dX6_widen_95
      · skip
        refine hv_aload_n C 0 0 dX6_widen_8 rfl rfl ?_
        refine zc_get C K (v := .ref (b + 39)) 4 rfl hu_7 (by decide) (cw_at 36 rfl) rfl fl_X6_18 rfl dX6_widen_9 ?_
        refine hv_iload_n C 1 1 dX6_widen_12 rfl rfl ?_
        refine hv_iconst C dX6_widen_13 ?_
        refine zc_iast C K (f := B1) v (cw_at 39 rfl) (cw_set 39 v 0 rfl) (by omega) (by omega) (by decide) dX6_widen_14 ?_
        refine zt_st (τ2 := sA (sA (sA (sA τ 37 P7) 38 P8) 39 (ua B1 v 0)) 40 B2) (by rw [u2_sA, sA_comm (j := 40) (k := 39) (by decide), sA_sA]; first | done | rfl) ?_
        refine hv_aload_n C 0 0 dX6_widen_15 rfl rfl ?_
        refine zc_get C K (v := .ref (b + 40)) 5 rfl hu_7 (by decide) (cw_at 36 rfl) rfl fl_X6_21 rfl dX6_widen_16 ?_
        refine hv_iload_n C 1 1 dX6_widen_19 rfl rfl ?_
        refine hv_iconst C dX6_widen_20 ?_
        refine zc_iast C K (f := B2) v (cw_at 40 rfl) (cw_set 40 v 0 rfl) (by omega) (by omega) (by decide) dX6_widen_21 ?_
        refine zt_st (τ2 := sA (sA (sA (sA τ 37 P7) 38 P8) 39 (ua B1 v 0)) 40 (ua B2 v 0)) (by rw [u2_sA, sA_sA]; first | done | rfl) ?_
        refine hv_iload_n C 1 1 dX6_widen_22 rfl rfl ?_
        refine hv_bipush C dX6_widen_23 (by decide) ?_
        refine hv_icmp_eq C 89 dX6_widen_25 (by decide) (by omega) (by omega) (fun h25 => ?_) (fun h25 => ?_)
        · skip
          refine hv_iinc C 1 1 [(1, .int (iz (((v : Nat) : Int) + 1))), (0, .ref (b + 36))] dX6_widen_89 rfl (by decide) rfl ?_
          refine hv_goto C 2 dX6_widen_92 (by decide) ?_
          refine hv_loc [1, 0] [(0, .ref (b + 36)), (1, .int (iz (((v : Nat) : Int) + 1)))] rfl ?_
          exact ih2 (v + 1) P7 P8 (ua B1 v 0) (ua B2 v 0) (by omega) (by omega) (by first | exact wdS_n hwd (by omega) | exact wdS_y hwd (by omega) zc9 (by assumption) (by first | assumption | (rw [ua_ne _ _ (by omega)] at *; assumption)) (by assumption) (by first | assumption | (rw [ua_ne _ _ (by omega)] at *; assumption))) (by rw [hB1]; rfl) (by rw [hB2]; rfl) (fun i z z2 => by first | exact hPu i (by omega) z2 | (rw [ua_ne _ _ (by omega), ua_ne _ _ (by omega)]; exact hPu i (by omega) z2))
        · skip
          have zP := hPu v (by omega) (by omega)
          have zr8 := h38 v (by omega)
          refine hv_aload_n C 0 0 dX6_widen_28 rfl rfl ?_
          refine zc_get C K (v := .ref (b + 38)) 3 rfl hu_7 (by decide) (cw_at 36 rfl) rfl fl_X6_15 rfl dX6_widen_29 ?_
          refine hv_iload_n C 1 1 dX6_widen_32 rfl rfl ?_
          refine zc_iald C K (f := P8) v (cw_at 38 rfl) (by omega) (by omega) (by decide) dX6_widen_33 ?_
          refine hv_nm (fun x1 ex1 => ?_)
          have rx1 : inI x1 := by rw [ex1]; exact (by rw [zP]; exact zr8)
          refine hv_aload_n C 0 0 dX6_widen_34 rfl rfl ?_
          refine zc_get C K (v := .ref (b + 41)) 6 rfl hu_7 (by decide) (cw_at 36 rfl) rfl fl_X6_24 rfl dX6_widen_35 ?_
          refine hv_iload_n C 1 1 dX6_widen_38 rfl rfl ?_
          refine zc_iald C K (f := (τ 41)) v (cw_at 41 rfl) (by omega) (by omega) (by decide) dX6_widen_39 ?_
          refine hv_as (τ 41 v) rfl ?_
          refine hv_nm (fun x2 ex2 => ?_)
          have rx2 : inI x2 := by rw [ex2]; exact h41 v (by omega)
          refine hv_icmp_gt C 89 dX6_widen_40 (by decide) (by omega) (by omega) (fun h40 => ?_) (fun h40 => ?_)
          · skip
            refine hv_iinc C 1 1 [(1, .int (iz (((v : Nat) : Int) + 1))), (0, .ref (b + 36))] dX6_widen_89 rfl (by decide) rfl ?_
            refine hv_goto C 2 dX6_widen_92 (by decide) ?_
            refine hv_loc [1, 0] [(0, .ref (b + 36)), (1, .int (iz (((v : Nat) : Int) + 1)))] rfl ?_
            exact ih2 (v + 1) P7 P8 (ua B1 v 0) (ua B2 v 0) (by omega) (by omega) (by first | exact wdS_n hwd (by omega) | exact wdS_y hwd (by omega) zc9 (by assumption) (by first | assumption | (rw [ua_ne _ _ (by omega)] at *; assumption)) (by assumption) (by first | assumption | (rw [ua_ne _ _ (by omega)] at *; assumption))) (by rw [hB1]; rfl) (by rw [hB2]; rfl) (fun i z z2 => by first | exact hPu i (by omega) z2 | (rw [ua_ne _ _ (by omega), ua_ne _ _ (by omega)]; exact hPu i (by omega) z2))
          · skip
            have zc9 : P8 v ≤ τ 41 v := by omega
            refine hv_aload_n C 0 0 dX6_widen_43 rfl rfl ?_
            refine zc_get C K (v := .ref (b + 37)) 2 rfl hu_7 (by decide) (cw_at 36 rfl) rfl fl_X6_9 rfl dX6_widen_44 ?_
            refine hv_bipush C dX6_widen_47 (by decide) ?_
            refine hv_dup2 C dX6_widen_49 rfl rfl ?_
            refine zc_iald C K (f := P7) 12 (cw_at 37 rfl) (by omega) (by omega) (by decide) dX6_widen_50 ?_
            refine hv_nm (fun x3 ex3 => ?_)
            refine hv_aload_n C 0 0 dX6_widen_51 rfl rfl ?_
            refine zc_get C K (v := .ref (b + 37)) 2 rfl hu_7 (by decide) (cw_at 36 rfl) rfl fl_X6_9 rfl dX6_widen_52 ?_
            refine hv_iload_n C 1 1 dX6_widen_55 rfl rfl ?_
            refine zc_iald C K (f := P7) v (cw_at 37 rfl) (by omega) (by omega) (by decide) dX6_widen_56 ?_
            refine hv_nm (fun x4 ex4 => ?_)
            refine hv_iadd C dX6_widen_57 ?_
            refine zc_iast C K (f := P7) 12 (cw_at 37 rfl) (cw_set 37 12 (x3 + x4) rfl) (by omega) (by omega) (by decide) dX6_widen_58 ?_
            refine zt_st (τ2 := sA (sA (sA (sA τ 37 (ua P7 12 (x3 + x4))) 38 P8) 39 (ua B1 v 0)) 40 (ua B2 v 0)) (by rw [u2_sA, sA_comm (j := 40) (k := 37) (by decide), sA_comm (j := 39) (k := 37) (by decide), sA_comm (j := 38) (k := 37) (by decide), sA_sA]; first | done | rfl) ?_
            refine hv_aload_n C 0 0 dX6_widen_59 rfl rfl ?_
            refine zc_get C K (v := .ref (b + 38)) 3 rfl hu_7 (by decide) (cw_at 36 rfl) rfl fl_X6_15 rfl dX6_widen_60 ?_
            refine hv_bipush C dX6_widen_63 (by decide) ?_
            refine hv_dup2 C dX6_widen_65 rfl rfl ?_
            refine zc_iald C K (f := P8) 12 (cw_at 38 rfl) (by omega) (by omega) (by decide) dX6_widen_66 ?_
            refine hv_nm (fun x5 ex5 => ?_)
            refine hv_aload_n C 0 0 dX6_widen_67 rfl rfl ?_
            refine zc_get C K (v := .ref (b + 38)) 3 rfl hu_7 (by decide) (cw_at 36 rfl) rfl fl_X6_15 rfl dX6_widen_68 ?_
            refine hv_iload_n C 1 1 dX6_widen_71 rfl rfl ?_
            refine zc_iald C K (f := P8) v (cw_at 38 rfl) (by omega) (by omega) (by decide) dX6_widen_72 ?_
            refine hv_nm (fun x6 ex6 => ?_)
            refine hv_iadd C dX6_widen_73 ?_
            refine zc_iast C K (f := P8) 12 (cw_at 38 rfl) (cw_set 38 12 (x5 + x6) rfl) (by omega) (by omega) (by decide) dX6_widen_74 ?_
            refine zt_st (τ2 := sA (sA (sA (sA τ 37 (ua P7 12 (x3 + x4))) 38 (ua P8 12 (x5 + x6))) 39 (ua B1 v 0)) 40 (ua B2 v 0)) (by rw [u2_sA, sA_comm (j := 40) (k := 38) (by decide), sA_comm (j := 39) (k := 38) (by decide), sA_sA]; first | done | rfl) ?_
            refine hv_aload_n C 0 0 dX6_widen_75 rfl rfl ?_
            refine zc_get C K (v := .ref (b + 37)) 2 rfl hu_7 (by decide) (cw_at 36 rfl) rfl fl_X6_9 rfl dX6_widen_76 ?_
            refine hv_iload_n C 1 1 dX6_widen_79 rfl rfl ?_
            refine hv_iconst C dX6_widen_80 ?_
            refine zc_iast C K (f := (ua P7 12 (x3 + x4))) v (cw_at 37 rfl) (cw_set 37 v 0 rfl) (by omega) (by omega) (by decide) dX6_widen_81 ?_
            refine zt_st (τ2 := sA (sA (sA (sA τ 37 (ua (ua P7 12 (x3 + x4)) v 0)) 38 (ua P8 12 (x5 + x6))) 39 (ua B1 v 0)) 40 (ua B2 v 0)) (by rw [u2_sA, sA_comm (j := 40) (k := 37) (by decide), sA_comm (j := 39) (k := 37) (by decide), sA_comm (j := 38) (k := 37) (by decide), sA_sA]; first | done | rfl) ?_
            refine hv_aload_n C 0 0 dX6_widen_82 rfl rfl ?_
            refine zc_get C K (v := .ref (b + 38)) 3 rfl hu_7 (by decide) (cw_at 36 rfl) rfl fl_X6_15 rfl dX6_widen_83 ?_
            refine hv_iload_n C 1 1 dX6_widen_86 rfl rfl ?_
            refine hv_iconst C dX6_widen_87 ?_
            refine zc_iast C K (f := (ua P8 12 (x5 + x6))) v (cw_at 38 rfl) (cw_set 38 v 0 rfl) (by omega) (by omega) (by decide) dX6_widen_88 ?_
            refine zt_st (τ2 := sA (sA (sA (sA τ 37 (ua (ua P7 12 (x3 + x4)) v 0)) 38 (ua (ua P8 12 (x5 + x6)) v 0)) 39 (ua B1 v 0)) 40 (ua B2 v 0)) (by rw [u2_sA, sA_comm (j := 40) (k := 38) (by decide), sA_comm (j := 39) (k := 38) (by decide), sA_sA]; first | done | rfl) ?_
            refine hv_iinc C 1 1 [(1, .int (iz (((v : Nat) : Int) + 1))), (0, .ref (b + 36))] dX6_widen_89 rfl (by decide) rfl ?_
            refine hv_goto C 2 dX6_widen_92 (by decide) ?_
            refine hv_loc [1, 0] [(0, .ref (b + 36)), (1, .int (iz (((v : Nat) : Int) + 1)))] rfl ?_
            exact ih2 (v + 1) (ua (ua P7 12 (x3 + x4)) v 0) (ua (ua P8 12 (x5 + x6)) v 0) (ua B1 v 0) (ua B2 v 0) (by omega) (by omega) (by first | exact wdS_n hwd (by omega) | exact wdS_y hwd (by omega) zc9 (by assumption) (by first | assumption | (rw [ua_ne _ _ (by omega)] at *; assumption)) (by assumption) (by first | assumption | (rw [ua_ne _ _ (by omega)] at *; assumption))) (by rw [hB1]; rfl) (by rw [hB2]; rfl) (fun i z z2 => by first | exact hPu i (by omega) z2 | (rw [ua_ne _ _ (by omega), ua_ne _ _ (by omega)]; exact hPu i (by omega) z2))
  refine hv_loc [1, 0] [(0, .ref (b + 36)), (1, .int (iz 0))] rfl ?_
  refine zt_st (τ2 := sA τ 37 (τ 37)) ((sA_id τ 37).symm) ?_
  refine zt_st (τ2 := sA (sA τ 37 (τ 37)) 38 (τ 38)) ((sA_id (sA τ 37 (τ 37)) 38).symm) ?_
  refine zt_st (τ2 := sA (sA (sA τ 37 (τ 37)) 38 (τ 38)) 39 (τ 39)) ((sA_id (sA (sA τ 37 (τ 37)) 38 (τ 38)) 39).symm) ?_
  refine zt_st (τ2 := sA (sA (sA (sA τ 37 (τ 37)) 38 (τ 38)) 39 (τ 39)) 40 (τ 40)) ((sA_id (sA (sA (sA τ 37 (τ 37)) 38 (τ 38)) 39 (τ 39)) 40).symm) ?_
  exact L2 _ 0 (τ 37) (τ 38) (τ 39) (τ 40) (Nat.lt_succ_self _) (by omega) rfl rfl rfl (fun i z z2 => rfl)
