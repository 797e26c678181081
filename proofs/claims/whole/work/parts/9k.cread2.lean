/-! the class's reader: deeds, tests, lines -/
def rdv (τ : Nat → Nat → Int) : Int := if tkT τ = 13 then tkv (tks τ 13 13) 100 10099 - 100 else if tkv τ 11 12 = 11 then -1 else -2
def rds (τ : Nat → Nat → Int) : Nat → Nat → Int := if tkT τ = 13 then tks (tks τ 13 13) 100 10099 else tks τ 11 12
def rt4 (pl : Int) (nt : Bool) (sb sg nu : Int) (τ : Nat → Nat → Int) : Nat → Nat → Int := if τ 44 6 = 0 then (if rmT τ then atS τ (xb nt) sb sg nu else otm (atS τ (xb nt) sb sg nu) pl) else τ
def rt3 (pl : Int) (nt : Bool) (sb : Int) (τ : Nat → Nat → Int) : Nat → Nat → Int := if 1 < sb then rt4 pl nt sb (tkv τ 4 6 - 5) (tkv (tks τ 4 6) 100 10099 - 100) (tks (tks τ 4 6) 100 10099) else rt4 pl nt sb 0 1 τ
def rt2 (pl : Int) (nt : Bool) (τ : Nat → Nat → Int) : Nat → Nat → Int := rt3 pl nt (tkv τ 14 22 - 14) (tks τ 14 22)
def rtS (τ : Nat → Nat → Int) : Nat → Nat → Int := if tkT τ = 10 then rt2 (tkP τ) true (tks τ 10 10) else rt2 (tkP τ) false τ
def rlw : Nat → (Nat → Nat → Int) → (Nat → Nat → Int)
  | 0, τ => τ
  | f + 1, τ => if τ 44 6 = 0 ∧ tkT τ = 9 then rlw f (rtS (tks τ 9 9)) else τ
def rsS (τ : Nat → Nat → Int) : Nat → Nat → Int := tks (rlw (τ 44 2).toNat (rtS (tks τ 8 8))) 2 2
def rn3 (d : Int) (τ : Nat → Nat → Int) : Nat → Nat → Int := if τ 44 6 = 0 then alT τ d else τ
def rn2 (τ : Nat → Nat → Int) : Nat → Nat → Int := rn3 (rdv τ) (tks (rds τ) 3 3)
def rnS (τ : Nat → Nat → Int) : Nat → Nat → Int := rn2 (if tkT τ = 8 then rsS τ else τ)
def rxw : Nat → Nat → (Nat → Nat → Int) → (Nat → Nat → Int)
  | 0, _, τ => τ
  | f + 1, li9, τ => if τ 44 6 = 0 ∧ ¬ tkT τ = 0 then rxw f (li9 + 1) (rnS (if 16 ≤ li9 then otm τ (tkP τ) else τ)) else τ
def rxE (τ : Nat → Nat → Int) : Nat → Nat → Int := if τ 44 6 = 0 ∧ ¬ τ 44 4 = -1 then sA τ 44 (ua (ua (τ 44) 6 3) 7 (τ 44 4)) else τ
theorem rlw_s {f : Nat} {τ : Nat → Nat → Int} (hf : 0 < f) (h : τ 44 6 = 0 ∧ tkT τ = 9) : rlw f τ = rlw (f - 1) (rtS (tks τ 9 9)) := by
  obtain ⟨g, rfl⟩ : ∃ q, f = q + 1 := ⟨f - 1, by omega⟩
  conv => lhs; unfold rlw
  rw [if_pos h]; rfl
theorem rlw_e {f : Nat} {τ : Nat → Nat → Int} (h : f = 0 ∨ ¬ (τ 44 6 = 0 ∧ tkT τ = 9)) : rlw f τ = τ := by
  cases f with
  | zero => rfl
  | succ g => unfold rlw; rw [if_neg (by rcases h with h | h; omega; exact h)]
theorem rxw_s {f li9 : Nat} {τ : Nat → Nat → Int} (hf : 0 < f) (h : τ 44 6 = 0 ∧ ¬ tkT τ = 0) : rxw f li9 τ = rxw (f - 1) (li9 + 1) (rnS (if 16 ≤ li9 then otm τ (tkP τ) else τ)) := by
  obtain ⟨g, rfl⟩ : ∃ q, f = q + 1 := ⟨f - 1, by omega⟩
  conv => lhs; unfold rxw
  rw [if_pos h]; rfl
theorem rxw_e {f li9 : Nat} {τ : Nat → Nat → Int} (h : f = 0 ∨ ¬ (τ 44 6 = 0 ∧ ¬ tkT τ = 0)) : rxw f li9 τ = τ := by
  cases f with
  | zero => rfl
  | succ g => unfold rxw; rw [if_neg (by rcases h with h | h; omega; exact h)]
/-- what a step of the reader keeps -/
def RK9 (pk : Nat) (τ T : Nat → Nat → Int) : Prop := RI9 pk T ∧ T 44 2 = τ 44 2 ∧ T 45 = τ 45 ∧ T 46 = τ 46 ∧ ∀ j, j ≠ 44 → j < 100 → T j = τ j
section RKS
variable {pk : Nat} {τ T U : Nat → Nat → Int}
theorem rk_r (h : RI9 pk τ) : RK9 pk τ τ := ⟨h, rfl, rfl, rfl, fun _ _ _ => rfl⟩
theorem rk_t (h : RK9 pk τ T) (g : RK9 pk T U) : RK9 pk τ U := ⟨g.1, g.2.1.trans h.2.1, g.2.2.1.trans h.2.2.1, g.2.2.2.1.trans h.2.2.2.1, fun j a b => (g.2.2.2.2 j a b).trans (h.2.2.2.2 j a b)⟩
theorem rk_44 (h : RI9 pk τ) {F : Nat → Int} (h2 : F 2 = τ 44 2) (h3 : 0 ≤ F 3 ∧ F 3 ≤ F 2) (h4 : inI (F 4)) (h5 : F 5 = τ 44 5) (h6 : 0 ≤ F 6 ∧ F 6 ≤ 3) : RK9 pk τ (sA τ 44 F) := by
  have e : ∀ j, j ≠ 44 → sA τ 44 F j = τ j := fun j hj => sA_ne _ _ hj
  obtain ⟨i1, i2, i3, i4, i5, i6, i7⟩ := h
  refine ⟨⟨?_, ?_, ?_, ?_, ?_, ?_, ?_⟩, ?_, e 45 (by decide), e 46 (by decide), fun j hj _ => e j hj⟩
  · rw [sA_at]; omega
  · rw [sA_at]; omega
  · rw [sA_at]; exact h4
  · rw [sA_at]; omega
  · rw [e 100 (by decide)]; exact i5
  · rw [sA_at, e 45 (by decide), e 46 (by decide), h2]; exact i6
  · rw [e 102 (by decide)]; exact i7
  · rw [sA_at]; exact h2
theorem rk_tks (h : RI9 pk τ) (fi la : Int) : RK9 pk τ (tks τ fi la) := by
  have i1 := h.1
  have i2 := h.2.1
  unfold tks
  split
  · exact rk_r h
  · split
    · next q =>
      have q2 := q.2
      exact rk_44 h (ua_ne _ _ (by decide)) (by rw [ua_at, ua_ne _ _ (by decide)]; omega) (by rw [ua_ne _ _ (by decide)]; exact h.2.2.1) (ua_ne _ _ (by decide)) (by rw [ua_ne _ _ (by decide)]; exact i2)
    · exact rk_44 h (by rw [ua_ne _ _ (by decide), ua_ne _ _ (by decide)]) (by rw [ua_ne _ _ (by decide), ua_ne _ _ (by decide), ua_ne _ _ (by decide), ua_ne _ _ (by decide)]; omega) (by rw [ua_ne _ _ (by decide), ua_ne _ _ (by decide)]; exact h.2.2.1) (by rw [ua_ne _ _ (by decide), ua_ne _ _ (by decide)]) (by rw [ua_ne _ _ (by decide), ua_at]; decide)
theorem rk_otm (h : RI9 pk τ) {pl : Int} (hp : inI pl) : RK9 pk τ (otm τ pl) := by
  have i1 := h.1
  unfold otm
  split
  · exact rk_44 h (ua_ne _ _ (by decide)) (by rw [ua_ne _ _ (by decide), ua_ne _ _ (by decide)]; omega) (by rw [ua_at]; exact hp) (ua_ne _ _ (by decide)) (by rw [ua_ne _ _ (by decide)]; exact h.2.1)
  · exact rk_r h
theorem rk_atS (h : RI9 pk τ) (nt sb sg nu : Int) : RK9 pk τ (atS τ nt sb sg nu) := by
  unfold atS
  split
  · next q =>
    obtain ⟨i1, i2, i3, i4, i5, i6, i7⟩ := h
    have e : ∀ {X Y : Nat → Int} (j : Nat), j ≠ 102 → j ≠ 103 → sA (sA τ 102 X) 103 Y j = τ j := fun j h1 h2 => by rw [sA_ne _ _ h2, sA_ne _ _ h1]
    have e2 : ∀ {X Y : Nat → Int}, sA (sA τ 102 X) 103 Y 102 = X := by intro X Y; rw [sA_ne _ _ (by decide), sA_at]
    have q1 := q.1
    have q2 := q.2
    have c7 := i7 (τ 100 0).toNat (by omega)
    refine ⟨⟨by rw [e 44 (by decide) (by decide)]; exact i1, by rw [e 44 (by decide) (by decide)]; exact i2, by rw [e 44 (by decide) (by decide)]; exact i3, by rw [e 44 (by decide) (by decide)]; exact i4, by rw [e 100 (by decide) (by decide)]; exact i5, by rw [e 44 (by decide) (by decide), e 45 (by decide) (by decide), e 46 (by decide) (by decide)]; exact i6, fun i hi => ?_⟩, by rw [e 44 (by decide) (by decide)], e 45 (by decide) (by decide), e 46 (by decide) (by decide), fun j _ hj => e j (by omega) (by omega)⟩
    rw [e2]
    unfold ua
    split
    · omega
    · exact i7 i hi
  · exact rk_r h
theorem rk_alT (h : RI9 pk τ) (d : Int) : RK9 pk τ (alT τ d) := by
  unfold alT
  split
  · next q =>
    obtain ⟨i1, i2, i3, i4, i5, i6, i7⟩ := h
    have e : ∀ {X Y : Nat → Int} (j : Nat), j ≠ 100 → j ≠ 101 → sA (sA τ 100 X) 101 Y j = τ j := fun j h1 h2 => by rw [sA_ne _ _ h2, sA_ne _ _ h1]
    have e2 : ∀ {X Y : Nat → Int}, sA (sA τ 100 X) 101 Y 100 = X := by intro X Y; rw [sA_ne _ _ (by decide), sA_at]
    refine ⟨⟨by rw [e 44 (by decide) (by decide)]; exact i1, by rw [e 44 (by decide) (by decide)]; exact i2, by rw [e 44 (by decide) (by decide)]; exact i3, by rw [e 44 (by decide) (by decide)]; exact i4, ?_, by rw [e 44 (by decide) (by decide), e 45 (by decide) (by decide), e 46 (by decide) (by decide)]; exact i6, by rw [e 102 (by decide) (by decide)]; exact i7⟩, by rw [e 44 (by decide) (by decide)], e 45 (by decide) (by decide), e 46 (by decide) (by decide), fun j _ hj => e j (by omega) (by omega)⟩
    rw [e2, ua_at]; omega
  · exact rk_r h
theorem tkv_r (τ : Nat → Nat → Int) (fi la : Int) : tkv τ fi la = 1 ∨ (fi ≤ tkv τ fi la ∧ tkv τ fi la ≤ la) := by
  unfold tkv
  split
  · exact Or.inl rfl
  · split
    · next q => exact Or.inr q.1
    · exact Or.inl rfl
theorem rk_rds (h : RI9 pk τ) : RK9 pk τ (rds τ) := by
  unfold rds
  split
  · exact rk_t (rk_tks h 13 13) (rk_tks (rk_tks h 13 13).1 100 10099)
  · exact rk_tks h 11 12
theorem rdv_r (τ : Nat → Nat → Int) : -99 ≤ rdv τ ∧ rdv τ ≤ 9999 := by
  have := tkv_r (tks τ 13 13) 100 10099
  unfold rdv
  split
  · omega
  · split <;> omega
theorem rk_rt4 (h : RI9 pk τ) {pl sb sg nu : Int} {nt : Bool} (hp : inI pl) : RK9 pk τ (rt4 pl nt sb sg nu τ) := by
  unfold rt4
  split
  · split
    · exact rk_atS h _ _ _ _
    · exact rk_t (rk_atS h _ _ _ _) (rk_otm (rk_atS h _ _ _ _).1 hp)
  · exact rk_r h
theorem rk_rt3 (h : RI9 pk τ) {pl sb : Int} {nt : Bool} (hp : inI pl) : RK9 pk τ (rt3 pl nt sb τ) := by
  unfold rt3
  split
  · exact rk_t (rk_t (rk_tks h 4 6) (rk_tks (rk_tks h 4 6).1 100 10099)) (rk_rt4 (rk_tks (rk_tks h 4 6).1 100 10099).1 hp)
  · exact rk_rt4 h hp
theorem rk_rt2 (h : RI9 pk τ) {pl : Int} {nt : Bool} (hp : inI pl) : RK9 pk τ (rt2 pl nt τ) := rk_t (rk_tks h 14 22) (rk_rt3 (rk_tks h 14 22).1 hp)
theorem rk_rtS (h : RI9 pk τ) : RK9 pk τ (rtS τ) := by
  unfold rtS
  split
  · exact rk_t (rk_tks h 10 10) (rk_rt2 (rk_tks h 10 10).1 h.t.2)
  · exact rk_rt2 h h.t.2
theorem rk_rlw : ∀ (f : Nat) (τ : Nat → Nat → Int), RI9 pk τ → RK9 pk τ (rlw f τ)
  | 0, τ, h => rk_r h
  | f + 1, τ, h => by
    unfold rlw
    split
    · exact rk_t (rk_t (rk_tks h 9 9) (rk_rtS (rk_tks h 9 9).1)) (rk_rlw f _ (rk_rtS (rk_tks h 9 9).1).1)
    · exact rk_r h
theorem rk_rsS (h : RI9 pk τ) : RK9 pk τ (rsS τ) := by
  have a := rk_tks h 8 8
  have b := rk_rtS a.1
  have c := rk_rlw (τ 44 2).toNat _ b.1
  exact rk_t (rk_t (rk_t a b) c) (rk_tks c.1 2 2)
theorem rk_rn2 (h : RI9 pk τ) : RK9 pk τ (rn2 τ) := by
  have a := rk_rds h
  have b := rk_tks a.1 3 3
  unfold rn2 rn3
  split
  · exact rk_t (rk_t a b) (rk_alT b.1 _)
  · exact rk_t a b
theorem rk_rnS (h : RI9 pk τ) : RK9 pk τ (rnS τ) := by
  unfold rnS
  split
  · exact rk_t (rk_rsS h) (rk_rn2 (rk_rsS h).1)
  · exact rk_rn2 h
theorem rk_rxw : ∀ (f li9 : Nat) (τ : Nat → Nat → Int), RI9 pk τ → RK9 pk τ (rxw f li9 τ)
  | 0, _, τ, h => rk_r h
  | f + 1, li9, τ, h => by
    unfold rxw
    split
    · have a : RK9 pk τ (if 16 ≤ li9 then otm τ (tkP τ) else τ) := by
        split
        · exact rk_otm h h.t.2
        · exact rk_r h
      exact rk_t (rk_t a (rk_rnS a.1)) (rk_rxw f (li9 + 1) _ (rk_rnS a.1).1)
    · exact rk_r h
end RKS

theorem dX5_readDeed_0 : decode cX5_readDeed 0 = .ok (.aload_n 0, 1) := by decide +kernel
theorem dX5_readDeed_1 : decode cX5_readDeed 1 = .ok (.getfield 9, 3) := by decide +kernel
theorem dX5_readDeed_4 : decode cX5_readDeed 4 = .ok (.aload_n 0, 1) := by decide +kernel
theorem dX5_readDeed_5 : decode cX5_readDeed 5 = .ok (.getfield 70, 3) := by decide +kernel
theorem dX5_readDeed_8 : decode cX5_readDeed 8 = .ok (.iaload, 1) := by decide +kernel
theorem dX5_readDeed_9 : decode cX5_readDeed 9 = .ok (.bipush 13, 2) := by decide +kernel
theorem dX5_readDeed_11 : decode cX5_readDeed 11 = .ok (.if_icmp .ne 25, 3) := by decide +kernel
theorem dX5_readDeed_14 : decode cX5_readDeed 14 = .ok (.aload_n 0, 1) := by decide +kernel
theorem dX5_readDeed_15 : decode cX5_readDeed 15 = .ok (.bipush 13, 2) := by decide +kernel
theorem dX5_readDeed_17 : decode cX5_readDeed 17 = .ok (.bipush 13, 2) := by decide +kernel
theorem dX5_readDeed_19 : decode cX5_readDeed 19 = .ok (.invokevirtual 95, 3) := by decide +kernel
theorem dX5_readDeed_22 : decode cX5_readDeed 22 = .ok (.pop, 1) := by decide +kernel
theorem dX5_readDeed_23 : decode cX5_readDeed 23 = .ok (.aload_n 0, 1) := by decide +kernel
theorem dX5_readDeed_24 : decode cX5_readDeed 24 = .ok (.bipush 100, 2) := by decide +kernel
theorem dX5_readDeed_26 : decode cX5_readDeed 26 = .ok (.sipush 10099, 3) := by decide +kernel
theorem dX5_readDeed_29 : decode cX5_readDeed 29 = .ok (.invokevirtual 95, 3) := by decide +kernel
theorem dX5_readDeed_32 : decode cX5_readDeed 32 = .ok (.bipush 100, 2) := by decide +kernel
theorem dX5_readDeed_34 : decode cX5_readDeed 34 = .ok (.isub, 1) := by decide +kernel
theorem dX5_readDeed_35 : decode cX5_readDeed 35 = .ok (.ireturn, 1) := by decide +kernel
theorem dX5_readDeed_36 : decode cX5_readDeed 36 = .ok (.aload_n 0, 1) := by decide +kernel
theorem dX5_readDeed_37 : decode cX5_readDeed 37 = .ok (.bipush 11, 2) := by decide +kernel
theorem dX5_readDeed_39 : decode cX5_readDeed 39 = .ok (.bipush 12, 2) := by decide +kernel
theorem dX5_readDeed_41 : decode cX5_readDeed 41 = .ok (.invokevirtual 95, 3) := by decide +kernel
theorem dX5_readDeed_44 : decode cX5_readDeed 44 = .ok (.bipush 11, 2) := by decide +kernel
theorem dX5_readDeed_46 : decode cX5_readDeed 46 = .ok (.if_icmp .ne 7, 3) := by decide +kernel
theorem dX5_readDeed_49 : decode cX5_readDeed 49 = .ok (.iconst (-1), 1) := by decide +kernel
theorem dX5_readDeed_50 : decode cX5_readDeed 50 = .ok (.goto 5, 3) := by decide +kernel
theorem dX5_readDeed_53 : decode cX5_readDeed 53 = .ok (.bipush (-2), 2) := by decide +kernel
theorem dX5_readDeed_55 : decode cX5_readDeed 55 = .ok (.ireturn, 1) := by decide +kernel
theorem ck_X5_95 : zcV RX5 RX5 yX5_take cX5_take 4 (some .int) 95 2 := ⟨hk_tq4 35 (by decide +kernel) (by decide +kernel), hk_tq4 32 (by decide +kernel) (by decide +kernel), hk_tq1 10 (by decide +kernel) (by decide +kernel), ⟨by decide, by decide, by decide +kernel⟩, hk_tq4 34 (by decide +kernel) (by decide +kernel), hk_s 9 (by decide +kernel) (by decide +kernel)⟩
set_option maxRecDepth 100000 in
set_option maxHeartbeats 4000000 in
theorem k_X5_readDeed (l : Launch) {D : va_G} {ar : Nat → ClassId} {B : Nat → Prop} {b n : Nat} {w0 : zcW} {pk : Nat} (τ : Nat → Nat → Int)  (hk : b + 47 ≤ pk) (hI : RI9 pk τ) : zk_M l D ar B b pk w0 n yX5_readDeed cX5_readDeed 1 (some .int) 2 45 [.ref (b + 44)] τ (some (.int (iz (rdv τ)))) (rds τ) := by
  refine zc_start (own := RX5) (by decide +kernel) rfl (Nat.le_of_ble_eq_true rfl) ?_
  intro p e s m args below meth c C K hr hlk hnam
  have hI0 := hI
  have zτ := hI0.t
  unfold tkT tkP at zτ
  obtain ⟨i1, i2, i3, i4, i5, i6, i7⟩ := hI
  refine hv_aload_n C 0 0 dX5_readDeed_0 rfl rfl ?_
  refine zc_get C K (v := .ref (b + 45)) 0 rfl hu_6 (by decide) (cv_at 44 rfl) rfl fl_X5_9 rfl dX5_readDeed_1 ?_
  refine hv_aload_n C 0 0 dX5_readDeed_4 rfl rfl ?_
  refine zc_get C K (v := .int (iz (τ 44 3))) 3 rfl hu_6 (by decide) (cv_at 44 rfl) rfl fl_X5_70 rfl dX5_readDeed_5 ?_
  refine zc_iald C K (f := (τ 45)) (((τ 44 3) : Int)).toNat (cv_at 45 rfl) (by omega) (by omega) (by decide) dX5_readDeed_8 ?_
  refine hv_as (τ 45 (((τ 44 3) : Int)).toNat) rfl ?_
  refine hv_bipush C dX5_readDeed_9 (by decide) ?_
  refine hv_icmp_ne C 36 dX5_readDeed_11 (by decide) (by omega) (by omega) (fun h11 => ?_) (fun h11 => ?_)
  · skip
    refine hv_aload_n C 0 0 dX5_readDeed_36 rfl rfl ?_
    refine hv_bipush C dX5_readDeed_37 (by decide) ?_
    refine hv_bipush C dX5_readDeed_39 (by decide) ?_
    refine zk_callV [.int (iz 11), .int (iz 12)] [] C K (cv_at 44 rfl) rfl (k_X5_take l  τ 11 12 hk hI0 (by omega) (by omega)) ck_X5_95 (by decide) ⟨Nat.zero_le _, Nat.zero_le _⟩ rfl (Nat.le_of_ble_eq_true rfl) dX5_readDeed_41 ?_
    refine hv_as ((tkv τ 11 12)) rfl ?_
    obtain ⟨τ1, eτ1⟩ : ∃ t9 : Nat → Nat → Int, t9 = tks τ 11 12 := ⟨_, rfl⟩
    refine zk_st (τ2 := τ1) eτ1.symm ?_
    have Kτ1 : RK9 pk τ τ1 := by rw [eτ1]; exact rk_tks hI0 _ _
    have Iτ1 : RI9 pk τ1 := Kτ1.1
    have Jτ1 := Iτ1
    have zτ1 := Iτ1.t
    unfold tkT tkP at zτ1
    obtain ⟨i1τ1, i2τ1, i3τ1, i4τ1, i5τ1, i6τ1, i7τ1⟩ := Jτ1
    have vτ1 := tkv_r τ 11 12
    refine hv_bipush C dX5_readDeed_44 (by decide) ?_
    refine hv_icmp_ne C 53 dX5_readDeed_46 (by decide) (by omega) (by omega) (fun h46 => ?_) (fun h46 => ?_)
    · skip
      refine hv_bipush C dX5_readDeed_53 (by decide) ?_
      exact zk_iret C hr hlk (by subst_vars; unfold rdv; (first | rw [if_pos (by first | assumption | omega | (unfold tkT; omega))] | rw [if_neg (by first | assumption | omega | (unfold tkT; omega))]); (try (first | rw [if_pos (by first | assumption | omega | (unfold tkT; omega))] | rw [if_neg (by first | assumption | omega | (unfold tkT; omega))]))) (by subst_vars; unfold rds; (first | rw [if_pos (by first | assumption | omega | (unfold tkT; omega))] | rw [if_neg (by first | assumption | omega | (unfold tkT; omega))])) dX5_readDeed_55
    · skip
      refine hv_iconst C dX5_readDeed_49 ?_
      refine hv_goto C 55 dX5_readDeed_50 (by decide) ?_
      exact zk_iret C hr hlk (by subst_vars; unfold rdv; (first | rw [if_pos (by first | assumption | omega | (unfold tkT; omega))] | rw [if_neg (by first | assumption | omega | (unfold tkT; omega))]); (try (first | rw [if_pos (by first | assumption | omega | (unfold tkT; omega))] | rw [if_neg (by first | assumption | omega | (unfold tkT; omega))]))) (by subst_vars; unfold rds; (first | rw [if_pos (by first | assumption | omega | (unfold tkT; omega))] | rw [if_neg (by first | assumption | omega | (unfold tkT; omega))])) dX5_readDeed_55
  · skip
    refine hv_aload_n C 0 0 dX5_readDeed_14 rfl rfl ?_
    refine hv_bipush C dX5_readDeed_15 (by decide) ?_
    refine hv_bipush C dX5_readDeed_17 (by decide) ?_
    refine zk_callV [.int (iz 13), .int (iz 13)] [] C K (cv_at 44 rfl) rfl (k_X5_take l  τ 13 13 hk hI0 (by omega) (by omega)) ck_X5_95 (by decide) ⟨Nat.zero_le _, Nat.zero_le _⟩ rfl (Nat.le_of_ble_eq_true rfl) dX5_readDeed_19 ?_
    refine hv_as ((tkv τ 13 13)) rfl ?_
    obtain ⟨τ2, eτ2⟩ : ∃ t9 : Nat → Nat → Int, t9 = tks τ 13 13 := ⟨_, rfl⟩
    refine zk_st (τ2 := τ2) eτ2.symm ?_
    have Kτ2 : RK9 pk τ τ2 := by rw [eτ2]; exact rk_tks hI0 _ _
    have Iτ2 : RI9 pk τ2 := Kτ2.1
    have Jτ2 := Iτ2
    have zτ2 := Iτ2.t
    unfold tkT tkP at zτ2
    obtain ⟨i1τ2, i2τ2, i3τ2, i4τ2, i5τ2, i6τ2, i7τ2⟩ := Jτ2
    have vτ2 := tkv_r τ 13 13
    refine hv_pop C dX5_readDeed_22 rfl ?_
    refine hv_aload_n C 0 0 dX5_readDeed_23 rfl rfl ?_
    refine hv_bipush C dX5_readDeed_24 (by decide) ?_
    refine hv_sipush C dX5_readDeed_26 (by decide) ?_
    refine zk_callV [.int (iz 100), .int (iz 10099)] [] C K (cv_at 44 rfl) rfl (k_X5_take l  τ2 100 10099 hk Iτ2 (by omega) (by omega)) ck_X5_95 (by decide) ⟨Nat.zero_le _, Nat.zero_le _⟩ rfl (Nat.le_of_ble_eq_true rfl) dX5_readDeed_29 ?_
    refine hv_as ((tkv τ2 100 10099)) rfl ?_
    obtain ⟨τ3, eτ3⟩ : ∃ t9 : Nat → Nat → Int, t9 = tks τ2 100 10099 := ⟨_, rfl⟩
    refine zk_st (τ2 := τ3) eτ3.symm ?_
    have Kτ3 : RK9 pk τ2 τ3 := by rw [eτ3]; exact rk_tks Iτ2 _ _
    have Iτ3 : RI9 pk τ3 := Kτ3.1
    have Jτ3 := Iτ3
    have zτ3 := Iτ3.t
    unfold tkT tkP at zτ3
    obtain ⟨i1τ3, i2τ3, i3τ3, i4τ3, i5τ3, i6τ3, i7τ3⟩ := Jτ3
    have vτ3 := tkv_r τ2 100 10099
    refine hv_bipush C dX5_readDeed_32 (by decide) ?_
    refine hv_isub C dX5_readDeed_34 ?_
    exact zk_iret C hr hlk (by subst_vars; unfold rdv; (first | rw [if_pos (by first | assumption | omega | (unfold tkT; omega))] | rw [if_neg (by first | assumption | omega | (unfold tkT; omega))]); (try (first | rw [if_pos (by first | assumption | omega | (unfold tkT; omega))] | rw [if_neg (by first | assumption | omega | (unfold tkT; omega))]))) (by subst_vars; unfold rds; (first | rw [if_pos (by first | assumption | omega | (unfold tkT; omega))] | rw [if_neg (by first | assumption | omega | (unfold tkT; omega))])) dX5_readDeed_35
theorem dX5_readTest_0 : decode cX5_readTest 0 = .ok (.aload_n 0, 1) := by decide +kernel
theorem dX5_readTest_1 : decode cX5_readTest 1 = .ok (.getfield 15, 3) := by decide +kernel
theorem dX5_readTest_4 : decode cX5_readTest 4 = .ok (.aload_n 0, 1) := by decide +kernel
theorem dX5_readTest_5 : decode cX5_readTest 5 = .ok (.getfield 70, 3) := by decide +kernel
theorem dX5_readTest_8 : decode cX5_readTest 8 = .ok (.iaload, 1) := by decide +kernel
theorem dX5_readTest_9 : decode cX5_readTest 9 = .ok (.istore_n 1, 1) := by decide +kernel
theorem dX5_readTest_10 : decode cX5_readTest 10 = .ok (.aload_n 0, 1) := by decide +kernel
theorem dX5_readTest_11 : decode cX5_readTest 11 = .ok (.getfield 9, 3) := by decide +kernel
theorem dX5_readTest_14 : decode cX5_readTest 14 = .ok (.aload_n 0, 1) := by decide +kernel
theorem dX5_readTest_15 : decode cX5_readTest 15 = .ok (.getfield 70, 3) := by decide +kernel
theorem dX5_readTest_18 : decode cX5_readTest 18 = .ok (.iaload, 1) := by decide +kernel
theorem dX5_readTest_19 : decode cX5_readTest 19 = .ok (.bipush 10, 2) := by decide +kernel
theorem dX5_readTest_21 : decode cX5_readTest 21 = .ok (.if_icmp .ne 7, 3) := by decide +kernel
theorem dX5_readTest_24 : decode cX5_readTest 24 = .ok (.iconst 1, 1) := by decide +kernel
theorem dX5_readTest_25 : decode cX5_readTest 25 = .ok (.goto 4, 3) := by decide +kernel
theorem dX5_readTest_28 : decode cX5_readTest 28 = .ok (.iconst 0, 1) := by decide +kernel
theorem dX5_readTest_29 : decode cX5_readTest 29 = .ok (.istore_n 2, 1) := by decide +kernel
theorem dX5_readTest_30 : decode cX5_readTest 30 = .ok (.iload_n 2, 1) := by decide +kernel
theorem dX5_readTest_31 : decode cX5_readTest 31 = .ok (.ifCond .eq 12, 3) := by decide +kernel
theorem dX5_readTest_34 : decode cX5_readTest 34 = .ok (.aload_n 0, 1) := by decide +kernel
theorem dX5_readTest_35 : decode cX5_readTest 35 = .ok (.bipush 10, 2) := by decide +kernel
theorem dX5_readTest_37 : decode cX5_readTest 37 = .ok (.bipush 10, 2) := by decide +kernel
theorem dX5_readTest_39 : decode cX5_readTest 39 = .ok (.invokevirtual 95, 3) := by decide +kernel
theorem dX5_readTest_42 : decode cX5_readTest 42 = .ok (.pop, 1) := by decide +kernel
theorem dX5_readTest_43 : decode cX5_readTest 43 = .ok (.aload_n 0, 1) := by decide +kernel
theorem dX5_readTest_44 : decode cX5_readTest 44 = .ok (.bipush 14, 2) := by decide +kernel
theorem dX5_readTest_46 : decode cX5_readTest 46 = .ok (.bipush 22, 2) := by decide +kernel
theorem dX5_readTest_48 : decode cX5_readTest 48 = .ok (.invokevirtual 95, 3) := by decide +kernel
theorem dX5_readTest_51 : decode cX5_readTest 51 = .ok (.bipush 14, 2) := by decide +kernel
theorem dX5_readTest_53 : decode cX5_readTest 53 = .ok (.isub, 1) := by decide +kernel
theorem dX5_readTest_54 : decode cX5_readTest 54 = .ok (.istore_n 3, 1) := by decide +kernel
theorem dX5_readTest_55 : decode cX5_readTest 55 = .ok (.iconst 0, 1) := by decide +kernel
theorem dX5_readTest_56 : decode cX5_readTest 56 = .ok (.istore 4, 2) := by decide +kernel
theorem dX5_readTest_58 : decode cX5_readTest 58 = .ok (.iconst 1, 1) := by decide +kernel
theorem dX5_readTest_59 : decode cX5_readTest 59 = .ok (.istore 5, 2) := by decide +kernel
theorem dX5_readTest_61 : decode cX5_readTest 61 = .ok (.iload_n 3, 1) := by decide +kernel
theorem dX5_readTest_62 : decode cX5_readTest 62 = .ok (.iconst 1, 1) := by decide +kernel
theorem dX5_readTest_63 : decode cX5_readTest 63 = .ok (.if_icmp .le 28, 3) := by decide +kernel
theorem dX5_readTest_66 : decode cX5_readTest 66 = .ok (.aload_n 0, 1) := by decide +kernel
theorem dX5_readTest_67 : decode cX5_readTest 67 = .ok (.iconst 4, 1) := by decide +kernel
theorem dX5_readTest_68 : decode cX5_readTest 68 = .ok (.bipush 6, 2) := by decide +kernel
theorem dX5_readTest_70 : decode cX5_readTest 70 = .ok (.invokevirtual 95, 3) := by decide +kernel
theorem dX5_readTest_73 : decode cX5_readTest 73 = .ok (.iconst 5, 1) := by decide +kernel
theorem dX5_readTest_74 : decode cX5_readTest 74 = .ok (.isub, 1) := by decide +kernel
theorem dX5_readTest_75 : decode cX5_readTest 75 = .ok (.istore 4, 2) := by decide +kernel
theorem dX5_readTest_77 : decode cX5_readTest 77 = .ok (.aload_n 0, 1) := by decide +kernel
theorem dX5_readTest_78 : decode cX5_readTest 78 = .ok (.bipush 100, 2) := by decide +kernel
theorem dX5_readTest_80 : decode cX5_readTest 80 = .ok (.sipush 10099, 3) := by decide +kernel
theorem dX5_readTest_83 : decode cX5_readTest 83 = .ok (.invokevirtual 95, 3) := by decide +kernel
theorem dX5_readTest_86 : decode cX5_readTest 86 = .ok (.bipush 100, 2) := by decide +kernel
theorem dX5_readTest_88 : decode cX5_readTest 88 = .ok (.isub, 1) := by decide +kernel
theorem dX5_readTest_89 : decode cX5_readTest 89 = .ok (.istore 5, 2) := by decide +kernel
theorem dX5_readTest_91 : decode cX5_readTest 91 = .ok (.aload_n 0, 1) := by decide +kernel
theorem dX5_readTest_92 : decode cX5_readTest 92 = .ok (.getfield 73, 3) := by decide +kernel
theorem dX5_readTest_95 : decode cX5_readTest 95 = .ok (.ifCond .ne 24, 3) := by decide +kernel
theorem dX5_readTest_98 : decode cX5_readTest 98 = .ok (.aload_n 0, 1) := by decide +kernel
theorem dX5_readTest_99 : decode cX5_readTest 99 = .ok (.getfield 21, 3) := by decide +kernel
theorem dX5_readTest_102 : decode cX5_readTest 102 = .ok (.iload_n 2, 1) := by decide +kernel
theorem dX5_readTest_103 : decode cX5_readTest 103 = .ok (.iload_n 3, 1) := by decide +kernel
theorem dX5_readTest_104 : decode cX5_readTest 104 = .ok (.iload 4, 2) := by decide +kernel
theorem dX5_readTest_106 : decode cX5_readTest 106 = .ok (.iload 5, 2) := by decide +kernel
theorem dX5_readTest_108 : decode cX5_readTest 108 = .ok (.invokevirtual 104, 3) := by decide +kernel
theorem dX5_readTest_111 : decode cX5_readTest 111 = .ok (.ifCond .ne 8, 3) := by decide +kernel
theorem dX5_readTest_114 : decode cX5_readTest 114 = .ok (.aload_n 0, 1) := by decide +kernel
theorem dX5_readTest_115 : decode cX5_readTest 115 = .ok (.iload_n 1, 1) := by decide +kernel
theorem dX5_readTest_116 : decode cX5_readTest 116 = .ok (.invokevirtual 82, 3) := by decide +kernel
theorem dX5_readTest_119 : decode cX5_readTest 119 = .ok (.return_, 1) := by decide +kernel
theorem ck_X5_104 : zcV RX5 RX1 yX1_addTest cX1_addTest 6 (some .boolean) 104 4 := ⟨hk_tq4 44 (by decide +kernel) (by decide +kernel), hk_tq4 41 (by decide +kernel) (by decide +kernel), hk_tq1 7 (by decide +kernel) (by decide +kernel), ⟨by decide, by decide, by decide +kernel⟩, hk_tq4 42 (by decide +kernel) (by decide +kernel), hk_tq4 43 (by decide +kernel) (by decide +kernel)⟩
theorem ck_X5_82 : zcV RX5 RX5 yX5_oneTooMany cX5_oneTooMany 2 none 82 1 := ⟨hk_tq4 23 (by decide +kernel) (by decide +kernel), hk_tq4 20 (by decide +kernel) (by decide +kernel), hk_tq1 10 (by decide +kernel) (by decide +kernel), ⟨by decide, by decide, by decide +kernel⟩, hk_tq4 22 (by decide +kernel) (by decide +kernel), hk_s 6 (by decide +kernel) (by decide +kernel)⟩
set_option maxRecDepth 100000 in
set_option maxHeartbeats 4000000 in
theorem k_X5_readTest (l : Launch) {D : va_G} {ar : Nat → ClassId} {B : Nat → Prop} {b n : Nat} {w0 : zcW} {pk : Nat} (τ : Nat → Nat → Int)  (hk : b + 47 ≤ pk) (hI : RI9 pk τ) : zk_M l D ar B b pk w0 n yX5_readTest cX5_readTest 6 none 2 46 [.ref (b + 44)] τ none (rtS τ) := by
  refine zc_start (own := RX5) (by decide +kernel) rfl (Nat.le_of_ble_eq_true rfl) ?_
  intro p e s m args below meth c C K hr hlk hnam
  have hI0 := hI
  have zτ := hI0.t
  unfold tkT tkP at zτ
  obtain ⟨i1, i2, i3, i4, i5, i6, i7⟩ := hI
  refine hv_aload_n C 0 0 dX5_readTest_0 rfl rfl ?_
  refine zc_get C K (v := .ref (b + 46)) 1 rfl hu_6 (by decide) (cv_at 44 rfl) rfl fl_X5_15 rfl dX5_readTest_1 ?_
  refine hv_aload_n C 0 0 dX5_readTest_4 rfl rfl ?_
  refine zc_get C K (v := .int (iz (τ 44 3))) 3 rfl hu_6 (by decide) (cv_at 44 rfl) rfl fl_X5_70 rfl dX5_readTest_5 ?_
  refine zc_iald C K (f := (τ 46)) (((τ 44 3) : Int)).toNat (cv_at 46 rfl) (by omega) (by omega) (by decide) dX5_readTest_8 ?_
  refine hv_as (τ 46 (((τ 44 3) : Int)).toNat) rfl ?_
  refine hv_istore_n C 1 [(1, .int (iz (τ 46 (((τ 44 3) : Int)).toNat))), (0, .ref (b + 44))] dX5_readTest_9 rfl (by decide) rfl ?_
  refine hv_aload_n C 0 1 dX5_readTest_10 rfl rfl ?_
  refine zc_get C K (v := .ref (b + 45)) 0 rfl hu_6 (by decide) (cv_at 44 rfl) rfl fl_X5_9 rfl dX5_readTest_11 ?_
  refine hv_aload_n C 0 1 dX5_readTest_14 rfl rfl ?_
  refine zc_get C K (v := .int (iz (τ 44 3))) 3 rfl hu_6 (by decide) (cv_at 44 rfl) rfl fl_X5_70 rfl dX5_readTest_15 ?_
  refine zc_iald C K (f := (τ 45)) (((τ 44 3) : Int)).toNat (cv_at 45 rfl) (by omega) (by omega) (by decide) dX5_readTest_18 ?_
  refine hv_as (τ 45 (((τ 44 3) : Int)).toNat) rfl ?_
  refine hv_bipush C dX5_readTest_19 (by decide) ?_
  refine hv_icmp_ne C 28 dX5_readTest_21 (by decide) (by omega) (by omega) (fun h21 => ?_) (fun h21 => ?_)
  · skip
    refine hv_iconst C dX5_readTest_28 ?_
    refine hv_istore_n C 2 [(2, .int (iz 0)), (1, .int (iz (τ 46 (((τ 44 3) : Int)).toNat))), (0, .ref (b + 44))] dX5_readTest_29 rfl (by decide) rfl ?_
    refine hv_iload_n C 2 0 dX5_readTest_30 rfl rfl ?_
    refine hv_if_eq C 43 dX5_readTest_31 (by decide) (by decide) (fun _ => ?_) (fun h => absurd h (by decide))
    refine hv_aload_n C 0 2 dX5_readTest_43 rfl rfl ?_
    refine hv_bipush C dX5_readTest_44 (by decide) ?_
    refine hv_bipush C dX5_readTest_46 (by decide) ?_
    refine zk_callV [.int (iz 14), .int (iz 22)] [] C K (cv_at 44 rfl) rfl (k_X5_take l  τ 14 22 hk hI0 (by omega) (by omega)) ck_X5_95 (by decide) ⟨Nat.zero_le _, Nat.zero_le _⟩ rfl (Nat.le_of_ble_eq_true rfl) dX5_readTest_48 ?_
    refine hv_as ((tkv τ 14 22)) rfl ?_
    obtain ⟨τ1, eτ1⟩ : ∃ t9 : Nat → Nat → Int, t9 = tks τ 14 22 := ⟨_, rfl⟩
    refine zk_st (τ2 := τ1) eτ1.symm ?_
    have Kτ1 : RK9 pk τ τ1 := by rw [eτ1]; exact rk_tks hI0 _ _
    have Iτ1 : RI9 pk τ1 := Kτ1.1
    have Jτ1 := Iτ1
    have zτ1 := Iτ1.t
    unfold tkT tkP at zτ1
    obtain ⟨i1τ1, i2τ1, i3τ1, i4τ1, i5τ1, i6τ1, i7τ1⟩ := Jτ1
    have vτ1 := tkv_r τ 14 22
    refine hv_bipush C dX5_readTest_51 (by decide) ?_
    refine hv_isub C dX5_readTest_53 ?_
    refine hv_istore_n C 3 [(3, .int (iz ((tkv τ 14 22) - 14))), (2, .int (iz 0)), (1, .int (iz (τ 46 (((τ 44 3) : Int)).toNat))), (0, .ref (b + 44))] dX5_readTest_54 rfl (by decide) rfl ?_
    refine hv_iconst C dX5_readTest_55 ?_
    refine hv_istore C 4 [(4, .int (iz 0)), (3, .int (iz ((tkv τ 14 22) - 14))), (2, .int (iz 0)), (1, .int (iz (τ 46 (((τ 44 3) : Int)).toNat))), (0, .ref (b + 44))] dX5_readTest_56 (by decide) rfl ?_
    refine hv_iconst C dX5_readTest_58 ?_
    refine hv_istore C 5 [(5, .int (iz 1)), (4, .int (iz 0)), (3, .int (iz ((tkv τ 14 22) - 14))), (2, .int (iz 0)), (1, .int (iz (τ 46 (((τ 44 3) : Int)).toNat))), (0, .ref (b + 44))] dX5_readTest_59 (by decide) rfl ?_
    refine hv_iload_n C 3 2 dX5_readTest_61 rfl rfl ?_
    refine hv_iconst C dX5_readTest_62 ?_
    refine hv_icmp_le C 91 dX5_readTest_63 (by decide) (by omega) (by omega) (fun h63 => ?_) (fun h63 => ?_)
    · skip
      refine hv_aload_n C 0 5 dX5_readTest_91 rfl rfl ?_
      refine zc_get C K (v := .int (iz (τ1 44 6))) 6 rfl hu_6 (by decide) (cv_at 44 rfl) rfl fl_X5_73 rfl dX5_readTest_92 ?_
      refine hv_if_ne C 119 dX5_readTest_95 (by decide) (by omega) (fun h95 => ?_) (fun h95 => ?_)
      · skip
        exact zk_vret C hr hlk (by subst_vars; unfold rtS; (first | rw [if_pos (by first | assumption | omega | (unfold tkT; omega))] | rw [if_neg (by first | assumption | omega | (unfold tkT; omega))]); unfold rt2 rt3; (first | rw [if_pos (by first | assumption | omega | (unfold tkT; omega))] | rw [if_neg (by first | assumption | omega | (unfold tkT; omega))]); unfold rt4; (first | rw [if_pos (by first | assumption | omega | (unfold tkT; omega))] | rw [if_neg (by first | assumption | omega | (unfold tkT; omega))]); (try (first | rw [if_pos (by first | assumption | omega | (unfold tkT; omega))] | rw [if_neg (by first | assumption | omega | (unfold tkT; omega))])); (try rfl)) dX5_readTest_119
      · skip
        refine hv_aload_n C 0 5 dX5_readTest_98 rfl rfl ?_
        refine zc_get C K (v := va_rf (rfv ((τ1 44) 5))) 5 rfl hu_6 (by decide) (cv_at 44 rfl) rfl fl_X5_21 rfl dX5_readTest_99 ?_
        refine hv_asv (.ref pk) (by show va_rf (rfv (τ1 44 5)) = _; rw [i4τ1, rfv_n]; rfl) ?_
        refine hv_iload_n C 2 3 dX5_readTest_102 rfl rfl ?_
        refine hv_iload_n C 3 2 dX5_readTest_103 rfl rfl ?_
        refine hv_iload C 4 1 dX5_readTest_104 rfl ?_
        refine hv_iload C 5 0 dX5_readTest_106 rfl ?_
        refine zk_callV [.int (iz 0), .int (iz ((tkv τ 14 22) - 14)), .int (iz 0), .int (iz 1)] [] C K (cv_k100 hk) rfl (k_X1_addTest l  τ1 false ((tkv τ 14 22) - 14) 0 1 hk Iτ1) ck_X5_104 (by decide) ⟨Nat.zero_le _, Nat.zero_le _⟩ rfl (Nat.le_of_ble_eq_true rfl) dX5_readTest_108 ?_
        refine hv_as (xb (decide (rmT τ1))) rfl ?_
        obtain ⟨τ2, eτ2⟩ : ∃ t9 : Nat → Nat → Int, t9 = atS τ1 (xb false) ((tkv τ 14 22) - 14) 0 1 := ⟨_, rfl⟩
        refine zk_st (τ2 := τ2) eτ2.symm ?_
        have Kτ2 : RK9 pk τ1 τ2 := by rw [eτ2]; exact rk_atS Iτ1 _ _ _ _
        have Iτ2 : RI9 pk τ2 := Kτ2.1
        have Jτ2 := Iτ2
        have zτ2 := Iτ2.t
        unfold tkT tkP at zτ2
        obtain ⟨i1τ2, i2τ2, i3τ2, i4τ2, i5τ2, i6τ2, i7τ2⟩ := Jτ2
        refine hv_dif_ne C 119 dX5_readTest_111 (by decide)  (fun h111 => ?_) (fun h111 => ?_)
        · skip
          exact zk_vret C hr hlk (by subst_vars; unfold rtS; (first | rw [if_pos (by first | assumption | omega | (unfold tkT; omega))] | rw [if_neg (by first | assumption | omega | (unfold tkT; omega))]); unfold rt2 rt3; (first | rw [if_pos (by first | assumption | omega | (unfold tkT; omega))] | rw [if_neg (by first | assumption | omega | (unfold tkT; omega))]); unfold rt4; (first | rw [if_pos (by first | assumption | omega | (unfold tkT; omega))] | rw [if_neg (by first | assumption | omega | (unfold tkT; omega))]); (try (first | rw [if_pos (by first | assumption | omega | (unfold tkT; omega))] | rw [if_neg (by first | assumption | omega | (unfold tkT; omega))])); (try rfl)) dX5_readTest_119
        · skip
          refine hv_aload_n C 0 5 dX5_readTest_114 rfl rfl ?_
          refine hv_iload_n C 1 4 dX5_readTest_115 rfl rfl ?_
          refine zk_callV [.int (iz (τ 46 (((τ 44 3) : Int)).toNat))] [] C K (cv_at 44 rfl) rfl (k_X5_oneTooMany l  τ2 (τ 46 (((τ 44 3) : Int)).toNat) hk Iτ2 (by omega)) ck_X5_82 (by decide) ⟨Nat.zero_le _, Nat.zero_le _⟩ rfl (Nat.le_of_ble_eq_true rfl) dX5_readTest_116 ?_
          obtain ⟨τ3, eτ3⟩ : ∃ t9 : Nat → Nat → Int, t9 = otm τ2 (τ 46 (((τ 44 3) : Int)).toNat) := ⟨_, rfl⟩
          refine zk_st (τ2 := τ3) eτ3.symm ?_
          have Kτ3 : RK9 pk τ2 τ3 := by rw [eτ3]; exact rk_otm Iτ2 (by omega)
          have Iτ3 : RI9 pk τ3 := Kτ3.1
          have Jτ3 := Iτ3
          have zτ3 := Iτ3.t
          unfold tkT tkP at zτ3
          obtain ⟨i1τ3, i2τ3, i3τ3, i4τ3, i5τ3, i6τ3, i7τ3⟩ := Jτ3
          exact zk_vret C hr hlk (by subst_vars; unfold rtS; (first | rw [if_pos (by first | assumption | omega | (unfold tkT; omega))] | rw [if_neg (by first | assumption | omega | (unfold tkT; omega))]); unfold rt2 rt3; (first | rw [if_pos (by first | assumption | omega | (unfold tkT; omega))] | rw [if_neg (by first | assumption | omega | (unfold tkT; omega))]); unfold rt4; (first | rw [if_pos (by first | assumption | omega | (unfold tkT; omega))] | rw [if_neg (by first | assumption | omega | (unfold tkT; omega))]); (try (first | rw [if_pos (by first | assumption | omega | (unfold tkT; omega))] | rw [if_neg (by first | assumption | omega | (unfold tkT; omega))])); (try rfl)) dX5_readTest_119
    · skip
      refine hv_aload_n C 0 5 dX5_readTest_66 rfl rfl ?_
      refine hv_iconst C dX5_readTest_67 ?_
      refine hv_bipush C dX5_readTest_68 (by decide) ?_
      refine zk_callV [.int (iz 4), .int (iz 6)] [] C K (cv_at 44 rfl) rfl (k_X5_take l  τ1 4 6 hk Iτ1 (by omega) (by omega)) ck_X5_95 (by decide) ⟨Nat.zero_le _, Nat.zero_le _⟩ rfl (Nat.le_of_ble_eq_true rfl) dX5_readTest_70 ?_
      refine hv_as ((tkv τ1 4 6)) rfl ?_
      obtain ⟨τ4, eτ4⟩ : ∃ t9 : Nat → Nat → Int, t9 = tks τ1 4 6 := ⟨_, rfl⟩
      refine zk_st (τ2 := τ4) eτ4.symm ?_
      have Kτ4 : RK9 pk τ1 τ4 := by rw [eτ4]; exact rk_tks Iτ1 _ _
      have Iτ4 : RI9 pk τ4 := Kτ4.1
      have Jτ4 := Iτ4
      have zτ4 := Iτ4.t
      unfold tkT tkP at zτ4
      obtain ⟨i1τ4, i2τ4, i3τ4, i4τ4, i5τ4, i6τ4, i7τ4⟩ := Jτ4
      have vτ4 := tkv_r τ1 4 6
      refine hv_iconst C dX5_readTest_73 ?_
      refine hv_isub C dX5_readTest_74 ?_
      refine hv_istore C 4 [(4, .int (iz ((tkv τ1 4 6) - 5))), (5, .int (iz 1)), (3, .int (iz ((tkv τ 14 22) - 14))), (2, .int (iz 0)), (1, .int (iz (τ 46 (((τ 44 3) : Int)).toNat))), (0, .ref (b + 44))] dX5_readTest_75 (by decide) rfl ?_
      refine hv_aload_n C 0 5 dX5_readTest_77 rfl rfl ?_
      refine hv_bipush C dX5_readTest_78 (by decide) ?_
      refine hv_sipush C dX5_readTest_80 (by decide) ?_
      refine zk_callV [.int (iz 100), .int (iz 10099)] [] C K (cv_at 44 rfl) rfl (k_X5_take l  τ4 100 10099 hk Iτ4 (by omega) (by omega)) ck_X5_95 (by decide) ⟨Nat.zero_le _, Nat.zero_le _⟩ rfl (Nat.le_of_ble_eq_true rfl) dX5_readTest_83 ?_
      refine hv_as ((tkv τ4 100 10099)) rfl ?_
      obtain ⟨τ5, eτ5⟩ : ∃ t9 : Nat → Nat → Int, t9 = tks τ4 100 10099 := ⟨_, rfl⟩
      refine zk_st (τ2 := τ5) eτ5.symm ?_
      have Kτ5 : RK9 pk τ4 τ5 := by rw [eτ5]; exact rk_tks Iτ4 _ _
      have Iτ5 : RI9 pk τ5 := Kτ5.1
      have Jτ5 := Iτ5
      have zτ5 := Iτ5.t
      unfold tkT tkP at zτ5
      obtain ⟨i1τ5, i2τ5, i3τ5, i4τ5, i5τ5, i6τ5, i7τ5⟩ := Jτ5
      have vτ5 := tkv_r τ4 100 10099
      refine hv_bipush C dX5_readTest_86 (by decide) ?_
      refine hv_isub C dX5_readTest_88 ?_
      refine hv_istore C 5 [(5, .int (iz ((tkv τ4 100 10099) - 100))), (4, .int (iz ((tkv τ1 4 6) - 5))), (3, .int (iz ((tkv τ 14 22) - 14))), (2, .int (iz 0)), (1, .int (iz (τ 46 (((τ 44 3) : Int)).toNat))), (0, .ref (b + 44))] dX5_readTest_89 (by decide) rfl ?_
      refine hv_aload_n C 0 5 dX5_readTest_91 rfl rfl ?_
      refine zc_get C K (v := .int (iz (τ5 44 6))) 6 rfl hu_6 (by decide) (cv_at 44 rfl) rfl fl_X5_73 rfl dX5_readTest_92 ?_
      refine hv_if_ne C 119 dX5_readTest_95 (by decide) (by omega) (fun h95 => ?_) (fun h95 => ?_)
      · skip
        exact zk_vret C hr hlk (by subst_vars; unfold rtS; (first | rw [if_pos (by first | assumption | omega | (unfold tkT; omega))] | rw [if_neg (by first | assumption | omega | (unfold tkT; omega))]); unfold rt2 rt3; (first | rw [if_pos (by first | assumption | omega | (unfold tkT; omega))] | rw [if_neg (by first | assumption | omega | (unfold tkT; omega))]); unfold rt4; (first | rw [if_pos (by first | assumption | omega | (unfold tkT; omega))] | rw [if_neg (by first | assumption | omega | (unfold tkT; omega))]); (try (first | rw [if_pos (by first | assumption | omega | (unfold tkT; omega))] | rw [if_neg (by first | assumption | omega | (unfold tkT; omega))])); (try rfl)) dX5_readTest_119
      · skip
        refine hv_aload_n C 0 5 dX5_readTest_98 rfl rfl ?_
        refine zc_get C K (v := va_rf (rfv ((τ5 44) 5))) 5 rfl hu_6 (by decide) (cv_at 44 rfl) rfl fl_X5_21 rfl dX5_readTest_99 ?_
        refine hv_asv (.ref pk) (by show va_rf (rfv (τ5 44 5)) = _; rw [i4τ5, rfv_n]; rfl) ?_
        refine hv_iload_n C 2 3 dX5_readTest_102 rfl rfl ?_
        refine hv_iload_n C 3 2 dX5_readTest_103 rfl rfl ?_
        refine hv_iload C 4 1 dX5_readTest_104 rfl ?_
        refine hv_iload C 5 0 dX5_readTest_106 rfl ?_
        refine zk_callV [.int (iz 0), .int (iz ((tkv τ 14 22) - 14)), .int (iz ((tkv τ1 4 6) - 5)), .int (iz ((tkv τ4 100 10099) - 100))] [] C K (cv_k100 hk) rfl (k_X1_addTest l  τ5 false ((tkv τ 14 22) - 14) ((tkv τ1 4 6) - 5) ((tkv τ4 100 10099) - 100) hk Iτ5) ck_X5_104 (by decide) ⟨Nat.zero_le _, Nat.zero_le _⟩ rfl (Nat.le_of_ble_eq_true rfl) dX5_readTest_108 ?_
        refine hv_as (xb (decide (rmT τ5))) rfl ?_
        obtain ⟨τ6, eτ6⟩ : ∃ t9 : Nat → Nat → Int, t9 = atS τ5 (xb false) ((tkv τ 14 22) - 14) ((tkv τ1 4 6) - 5) ((tkv τ4 100 10099) - 100) := ⟨_, rfl⟩
        refine zk_st (τ2 := τ6) eτ6.symm ?_
        have Kτ6 : RK9 pk τ5 τ6 := by rw [eτ6]; exact rk_atS Iτ5 _ _ _ _
        have Iτ6 : RI9 pk τ6 := Kτ6.1
        have Jτ6 := Iτ6
        have zτ6 := Iτ6.t
        unfold tkT tkP at zτ6
        obtain ⟨i1τ6, i2τ6, i3τ6, i4τ6, i5τ6, i6τ6, i7τ6⟩ := Jτ6
        refine hv_dif_ne C 119 dX5_readTest_111 (by decide)  (fun h111 => ?_) (fun h111 => ?_)
        · skip
          exact zk_vret C hr hlk (by subst_vars; unfold rtS; (first | rw [if_pos (by first | assumption | omega | (unfold tkT; omega))] | rw [if_neg (by first | assumption | omega | (unfold tkT; omega))]); unfold rt2 rt3; (first | rw [if_pos (by first | assumption | omega | (unfold tkT; omega))] | rw [if_neg (by first | assumption | omega | (unfold tkT; omega))]); unfold rt4; (first | rw [if_pos (by first | assumption | omega | (unfold tkT; omega))] | rw [if_neg (by first | assumption | omega | (unfold tkT; omega))]); (try (first | rw [if_pos (by first | assumption | omega | (unfold tkT; omega))] | rw [if_neg (by first | assumption | omega | (unfold tkT; omega))])); (try rfl)) dX5_readTest_119
        · skip
          refine hv_aload_n C 0 5 dX5_readTest_114 rfl rfl ?_
          refine hv_iload_n C 1 4 dX5_readTest_115 rfl rfl ?_
          refine zk_callV [.int (iz (τ 46 (((τ 44 3) : Int)).toNat))] [] C K (cv_at 44 rfl) rfl (k_X5_oneTooMany l  τ6 (τ 46 (((τ 44 3) : Int)).toNat) hk Iτ6 (by omega)) ck_X5_82 (by decide) ⟨Nat.zero_le _, Nat.zero_le _⟩ rfl (Nat.le_of_ble_eq_true rfl) dX5_readTest_116 ?_
          obtain ⟨τ7, eτ7⟩ : ∃ t9 : Nat → Nat → Int, t9 = otm τ6 (τ 46 (((τ 44 3) : Int)).toNat) := ⟨_, rfl⟩
          refine zk_st (τ2 := τ7) eτ7.symm ?_
          have Kτ7 : RK9 pk τ6 τ7 := by rw [eτ7]; exact rk_otm Iτ6 (by omega)
          have Iτ7 : RI9 pk τ7 := Kτ7.1
          have Jτ7 := Iτ7
          have zτ7 := Iτ7.t
          unfold tkT tkP at zτ7
          obtain ⟨i1τ7, i2τ7, i3τ7, i4τ7, i5τ7, i6τ7, i7τ7⟩ := Jτ7
          exact zk_vret C hr hlk (by subst_vars; unfold rtS; (first | rw [if_pos (by first | assumption | omega | (unfold tkT; omega))] | rw [if_neg (by first | assumption | omega | (unfold tkT; omega))]); unfold rt2 rt3; (first | rw [if_pos (by first | assumption | omega | (unfold tkT; omega))] | rw [if_neg (by first | assumption | omega | (unfold tkT; omega))]); unfold rt4; (first | rw [if_pos (by first | assumption | omega | (unfold tkT; omega))] | rw [if_neg (by first | assumption | omega | (unfold tkT; omega))]); (try (first | rw [if_pos (by first | assumption | omega | (unfold tkT; omega))] | rw [if_neg (by first | assumption | omega | (unfold tkT; omega))])); (try rfl)) dX5_readTest_119
  · skip
    refine hv_iconst C dX5_readTest_24 ?_
    refine hv_goto C 29 dX5_readTest_25 (by decide) ?_
    refine hv_istore_n C 2 [(2, .int (iz 1)), (1, .int (iz (τ 46 (((τ 44 3) : Int)).toNat))), (0, .ref (b + 44))] dX5_readTest_29 rfl (by decide) rfl ?_
    refine hv_iload_n C 2 0 dX5_readTest_30 rfl rfl ?_
    refine hv_if_eq C 43 dX5_readTest_31 (by decide) (by decide) (fun h => absurd h (by decide)) (fun _ => ?_)
    refine hv_aload_n C 0 2 dX5_readTest_34 rfl rfl ?_
    refine hv_bipush C dX5_readTest_35 (by decide) ?_
    refine hv_bipush C dX5_readTest_37 (by decide) ?_
    refine zk_callV [.int (iz 10), .int (iz 10)] [] C K (cv_at 44 rfl) rfl (k_X5_take l  τ 10 10 hk hI0 (by omega) (by omega)) ck_X5_95 (by decide) ⟨Nat.zero_le _, Nat.zero_le _⟩ rfl (Nat.le_of_ble_eq_true rfl) dX5_readTest_39 ?_
    refine hv_as ((tkv τ 10 10)) rfl ?_
    obtain ⟨τ8, eτ8⟩ : ∃ t9 : Nat → Nat → Int, t9 = tks τ 10 10 := ⟨_, rfl⟩
    refine zk_st (τ2 := τ8) eτ8.symm ?_
    have Kτ8 : RK9 pk τ τ8 := by rw [eτ8]; exact rk_tks hI0 _ _
    have Iτ8 : RI9 pk τ8 := Kτ8.1
    have Jτ8 := Iτ8
    have zτ8 := Iτ8.t
    unfold tkT tkP at zτ8
    obtain ⟨i1τ8, i2τ8, i3τ8, i4τ8, i5τ8, i6τ8, i7τ8⟩ := Jτ8
    have vτ8 := tkv_r τ 10 10
    refine hv_pop C dX5_readTest_42 rfl ?_
    refine hv_aload_n C 0 2 dX5_readTest_43 rfl rfl ?_
    refine hv_bipush C dX5_readTest_44 (by decide) ?_
    refine hv_bipush C dX5_readTest_46 (by decide) ?_
    refine zk_callV [.int (iz 14), .int (iz 22)] [] C K (cv_at 44 rfl) rfl (k_X5_take l  τ8 14 22 hk Iτ8 (by omega) (by omega)) ck_X5_95 (by decide) ⟨Nat.zero_le _, Nat.zero_le _⟩ rfl (Nat.le_of_ble_eq_true rfl) dX5_readTest_48 ?_
    refine hv_as ((tkv τ8 14 22)) rfl ?_
    obtain ⟨τ9, eτ9⟩ : ∃ t9 : Nat → Nat → Int, t9 = tks τ8 14 22 := ⟨_, rfl⟩
    refine zk_st (τ2 := τ9) eτ9.symm ?_
    have Kτ9 : RK9 pk τ8 τ9 := by rw [eτ9]; exact rk_tks Iτ8 _ _
    have Iτ9 : RI9 pk τ9 := Kτ9.1
    have Jτ9 := Iτ9
    have zτ9 := Iτ9.t
    unfold tkT tkP at zτ9
    obtain ⟨i1τ9, i2τ9, i3τ9, i4τ9, i5τ9, i6τ9, i7τ9⟩ := Jτ9
    have vτ9 := tkv_r τ8 14 22
    refine hv_bipush C dX5_readTest_51 (by decide) ?_
    refine hv_isub C dX5_readTest_53 ?_
    refine hv_istore_n C 3 [(3, .int (iz ((tkv τ8 14 22) - 14))), (2, .int (iz 1)), (1, .int (iz (τ 46 (((τ 44 3) : Int)).toNat))), (0, .ref (b + 44))] dX5_readTest_54 rfl (by decide) rfl ?_
    refine hv_iconst C dX5_readTest_55 ?_
    refine hv_istore C 4 [(4, .int (iz 0)), (3, .int (iz ((tkv τ8 14 22) - 14))), (2, .int (iz 1)), (1, .int (iz (τ 46 (((τ 44 3) : Int)).toNat))), (0, .ref (b + 44))] dX5_readTest_56 (by decide) rfl ?_
    refine hv_iconst C dX5_readTest_58 ?_
    refine hv_istore C 5 [(5, .int (iz 1)), (4, .int (iz 0)), (3, .int (iz ((tkv τ8 14 22) - 14))), (2, .int (iz 1)), (1, .int (iz (τ 46 (((τ 44 3) : Int)).toNat))), (0, .ref (b + 44))] dX5_readTest_59 (by decide) rfl ?_
    refine hv_iload_n C 3 2 dX5_readTest_61 rfl rfl ?_
    refine hv_iconst C dX5_readTest_62 ?_
    refine hv_icmp_le C 91 dX5_readTest_63 (by decide) (by omega) (by omega) (fun h63 => ?_) (fun h63 => ?_)
    · skip
      refine hv_aload_n C 0 5 dX5_readTest_91 rfl rfl ?_
      refine zc_get C K (v := .int (iz (τ9 44 6))) 6 rfl hu_6 (by decide) (cv_at 44 rfl) rfl fl_X5_73 rfl dX5_readTest_92 ?_
      refine hv_if_ne C 119 dX5_readTest_95 (by decide) (by omega) (fun h95 => ?_) (fun h95 => ?_)
      · skip
        exact zk_vret C hr hlk (by subst_vars; unfold rtS; (first | rw [if_pos (by first | assumption | omega | (unfold tkT; omega))] | rw [if_neg (by first | assumption | omega | (unfold tkT; omega))]); unfold rt2 rt3; (first | rw [if_pos (by first | assumption | omega | (unfold tkT; omega))] | rw [if_neg (by first | assumption | omega | (unfold tkT; omega))]); unfold rt4; (first | rw [if_pos (by first | assumption | omega | (unfold tkT; omega))] | rw [if_neg (by first | assumption | omega | (unfold tkT; omega))]); (try (first | rw [if_pos (by first | assumption | omega | (unfold tkT; omega))] | rw [if_neg (by first | assumption | omega | (unfold tkT; omega))])); (try rfl)) dX5_readTest_119
      · skip
        refine hv_aload_n C 0 5 dX5_readTest_98 rfl rfl ?_
        refine zc_get C K (v := va_rf (rfv ((τ9 44) 5))) 5 rfl hu_6 (by decide) (cv_at 44 rfl) rfl fl_X5_21 rfl dX5_readTest_99 ?_
        refine hv_asv (.ref pk) (by show va_rf (rfv (τ9 44 5)) = _; rw [i4τ9, rfv_n]; rfl) ?_
        refine hv_iload_n C 2 3 dX5_readTest_102 rfl rfl ?_
        refine hv_iload_n C 3 2 dX5_readTest_103 rfl rfl ?_
        refine hv_iload C 4 1 dX5_readTest_104 rfl ?_
        refine hv_iload C 5 0 dX5_readTest_106 rfl ?_
        refine zk_callV [.int (iz 1), .int (iz ((tkv τ8 14 22) - 14)), .int (iz 0), .int (iz 1)] [] C K (cv_k100 hk) rfl (k_X1_addTest l  τ9 true ((tkv τ8 14 22) - 14) 0 1 hk Iτ9) ck_X5_104 (by decide) ⟨Nat.zero_le _, Nat.zero_le _⟩ rfl (Nat.le_of_ble_eq_true rfl) dX5_readTest_108 ?_
        refine hv_as (xb (decide (rmT τ9))) rfl ?_
        obtain ⟨τ10, eτ10⟩ : ∃ t9 : Nat → Nat → Int, t9 = atS τ9 (xb true) ((tkv τ8 14 22) - 14) 0 1 := ⟨_, rfl⟩
        refine zk_st (τ2 := τ10) eτ10.symm ?_
        have Kτ10 : RK9 pk τ9 τ10 := by rw [eτ10]; exact rk_atS Iτ9 _ _ _ _
        have Iτ10 : RI9 pk τ10 := Kτ10.1
        have Jτ10 := Iτ10
        have zτ10 := Iτ10.t
        unfold tkT tkP at zτ10
        obtain ⟨i1τ10, i2τ10, i3τ10, i4τ10, i5τ10, i6τ10, i7τ10⟩ := Jτ10
        refine hv_dif_ne C 119 dX5_readTest_111 (by decide)  (fun h111 => ?_) (fun h111 => ?_)
        · skip
          exact zk_vret C hr hlk (by subst_vars; unfold rtS; (first | rw [if_pos (by first | assumption | omega | (unfold tkT; omega))] | rw [if_neg (by first | assumption | omega | (unfold tkT; omega))]); unfold rt2 rt3; (first | rw [if_pos (by first | assumption | omega | (unfold tkT; omega))] | rw [if_neg (by first | assumption | omega | (unfold tkT; omega))]); unfold rt4; (first | rw [if_pos (by first | assumption | omega | (unfold tkT; omega))] | rw [if_neg (by first | assumption | omega | (unfold tkT; omega))]); (try (first | rw [if_pos (by first | assumption | omega | (unfold tkT; omega))] | rw [if_neg (by first | assumption | omega | (unfold tkT; omega))])); (try rfl)) dX5_readTest_119
        · skip
          refine hv_aload_n C 0 5 dX5_readTest_114 rfl rfl ?_
          refine hv_iload_n C 1 4 dX5_readTest_115 rfl rfl ?_
          refine zk_callV [.int (iz (τ 46 (((τ 44 3) : Int)).toNat))] [] C K (cv_at 44 rfl) rfl (k_X5_oneTooMany l  τ10 (τ 46 (((τ 44 3) : Int)).toNat) hk Iτ10 (by omega)) ck_X5_82 (by decide) ⟨Nat.zero_le _, Nat.zero_le _⟩ rfl (Nat.le_of_ble_eq_true rfl) dX5_readTest_116 ?_
          obtain ⟨τ11, eτ11⟩ : ∃ t9 : Nat → Nat → Int, t9 = otm τ10 (τ 46 (((τ 44 3) : Int)).toNat) := ⟨_, rfl⟩
          refine zk_st (τ2 := τ11) eτ11.symm ?_
          have Kτ11 : RK9 pk τ10 τ11 := by rw [eτ11]; exact rk_otm Iτ10 (by omega)
          have Iτ11 : RI9 pk τ11 := Kτ11.1
          have Jτ11 := Iτ11
          have zτ11 := Iτ11.t
          unfold tkT tkP at zτ11
          obtain ⟨i1τ11, i2τ11, i3τ11, i4τ11, i5τ11, i6τ11, i7τ11⟩ := Jτ11
          exact zk_vret C hr hlk (by subst_vars; unfold rtS; (first | rw [if_pos (by first | assumption | omega | (unfold tkT; omega))] | rw [if_neg (by first | assumption | omega | (unfold tkT; omega))]); unfold rt2 rt3; (first | rw [if_pos (by first | assumption | omega | (unfold tkT; omega))] | rw [if_neg (by first | assumption | omega | (unfold tkT; omega))]); unfold rt4; (first | rw [if_pos (by first | assumption | omega | (unfold tkT; omega))] | rw [if_neg (by first | assumption | omega | (unfold tkT; omega))]); (try (first | rw [if_pos (by first | assumption | omega | (unfold tkT; omega))] | rw [if_neg (by first | assumption | omega | (unfold tkT; omega))])); (try rfl)) dX5_readTest_119
    · skip
      refine hv_aload_n C 0 5 dX5_readTest_66 rfl rfl ?_
      refine hv_iconst C dX5_readTest_67 ?_
      refine hv_bipush C dX5_readTest_68 (by decide) ?_
      refine zk_callV [.int (iz 4), .int (iz 6)] [] C K (cv_at 44 rfl) rfl (k_X5_take l  τ9 4 6 hk Iτ9 (by omega) (by omega)) ck_X5_95 (by decide) ⟨Nat.zero_le _, Nat.zero_le _⟩ rfl (Nat.le_of_ble_eq_true rfl) dX5_readTest_70 ?_
      refine hv_as ((tkv τ9 4 6)) rfl ?_
      obtain ⟨τ12, eτ12⟩ : ∃ t9 : Nat → Nat → Int, t9 = tks τ9 4 6 := ⟨_, rfl⟩
      refine zk_st (τ2 := τ12) eτ12.symm ?_
      have Kτ12 : RK9 pk τ9 τ12 := by rw [eτ12]; exact rk_tks Iτ9 _ _
      have Iτ12 : RI9 pk τ12 := Kτ12.1
      have Jτ12 := Iτ12
      have zτ12 := Iτ12.t
      unfold tkT tkP at zτ12
      obtain ⟨i1τ12, i2τ12, i3τ12, i4τ12, i5τ12, i6τ12, i7τ12⟩ := Jτ12
      have vτ12 := tkv_r τ9 4 6
      refine hv_iconst C dX5_readTest_73 ?_
      refine hv_isub C dX5_readTest_74 ?_
      refine hv_istore C 4 [(4, .int (iz ((tkv τ9 4 6) - 5))), (5, .int (iz 1)), (3, .int (iz ((tkv τ8 14 22) - 14))), (2, .int (iz 1)), (1, .int (iz (τ 46 (((τ 44 3) : Int)).toNat))), (0, .ref (b + 44))] dX5_readTest_75 (by decide) rfl ?_
      refine hv_aload_n C 0 5 dX5_readTest_77 rfl rfl ?_
      refine hv_bipush C dX5_readTest_78 (by decide) ?_
      refine hv_sipush C dX5_readTest_80 (by decide) ?_
      refine zk_callV [.int (iz 100), .int (iz 10099)] [] C K (cv_at 44 rfl) rfl (k_X5_take l  τ12 100 10099 hk Iτ12 (by omega) (by omega)) ck_X5_95 (by decide) ⟨Nat.zero_le _, Nat.zero_le _⟩ rfl (Nat.le_of_ble_eq_true rfl) dX5_readTest_83 ?_
      refine hv_as ((tkv τ12 100 10099)) rfl ?_
      obtain ⟨τ13, eτ13⟩ : ∃ t9 : Nat → Nat → Int, t9 = tks τ12 100 10099 := ⟨_, rfl⟩
      refine zk_st (τ2 := τ13) eτ13.symm ?_
      have Kτ13 : RK9 pk τ12 τ13 := by rw [eτ13]; exact rk_tks Iτ12 _ _
      have Iτ13 : RI9 pk τ13 := Kτ13.1
      have Jτ13 := Iτ13
      have zτ13 := Iτ13.t
      unfold tkT tkP at zτ13
      obtain ⟨i1τ13, i2τ13, i3τ13, i4τ13, i5τ13, i6τ13, i7τ13⟩ := Jτ13
      have vτ13 := tkv_r τ12 100 10099
      refine hv_bipush C dX5_readTest_86 (by decide) ?_
      refine hv_isub C dX5_readTest_88 ?_
      refine hv_istore C 5 [(5, .int (iz ((tkv τ12 100 10099) - 100))), (4, .int (iz ((tkv τ9 4 6) - 5))), (3, .int (iz ((tkv τ8 14 22) - 14))), (2, .int (iz 1)), (1, .int (iz (τ 46 (((τ 44 3) : Int)).toNat))), (0, .ref (b + 44))] dX5_readTest_89 (by decide) rfl ?_
      refine hv_aload_n C 0 5 dX5_readTest_91 rfl rfl ?_
      refine zc_get C K (v := .int (iz (τ13 44 6))) 6 rfl hu_6 (by decide) (cv_at 44 rfl) rfl fl_X5_73 rfl dX5_readTest_92 ?_
      refine hv_if_ne C 119 dX5_readTest_95 (by decide) (by omega) (fun h95 => ?_) (fun h95 => ?_)
      · skip
        exact zk_vret C hr hlk (by subst_vars; unfold rtS; (first | rw [if_pos (by first | assumption | omega | (unfold tkT; omega))] | rw [if_neg (by first | assumption | omega | (unfold tkT; omega))]); unfold rt2 rt3; (first | rw [if_pos (by first | assumption | omega | (unfold tkT; omega))] | rw [if_neg (by first | assumption | omega | (unfold tkT; omega))]); unfold rt4; (first | rw [if_pos (by first | assumption | omega | (unfold tkT; omega))] | rw [if_neg (by first | assumption | omega | (unfold tkT; omega))]); (try (first | rw [if_pos (by first | assumption | omega | (unfold tkT; omega))] | rw [if_neg (by first | assumption | omega | (unfold tkT; omega))])); (try rfl)) dX5_readTest_119
      · skip
        refine hv_aload_n C 0 5 dX5_readTest_98 rfl rfl ?_
        refine zc_get C K (v := va_rf (rfv ((τ13 44) 5))) 5 rfl hu_6 (by decide) (cv_at 44 rfl) rfl fl_X5_21 rfl dX5_readTest_99 ?_
        refine hv_asv (.ref pk) (by show va_rf (rfv (τ13 44 5)) = _; rw [i4τ13, rfv_n]; rfl) ?_
        refine hv_iload_n C 2 3 dX5_readTest_102 rfl rfl ?_
        refine hv_iload_n C 3 2 dX5_readTest_103 rfl rfl ?_
        refine hv_iload C 4 1 dX5_readTest_104 rfl ?_
        refine hv_iload C 5 0 dX5_readTest_106 rfl ?_
        refine zk_callV [.int (iz 1), .int (iz ((tkv τ8 14 22) - 14)), .int (iz ((tkv τ9 4 6) - 5)), .int (iz ((tkv τ12 100 10099) - 100))] [] C K (cv_k100 hk) rfl (k_X1_addTest l  τ13 true ((tkv τ8 14 22) - 14) ((tkv τ9 4 6) - 5) ((tkv τ12 100 10099) - 100) hk Iτ13) ck_X5_104 (by decide) ⟨Nat.zero_le _, Nat.zero_le _⟩ rfl (Nat.le_of_ble_eq_true rfl) dX5_readTest_108 ?_
        refine hv_as (xb (decide (rmT τ13))) rfl ?_
        obtain ⟨τ14, eτ14⟩ : ∃ t9 : Nat → Nat → Int, t9 = atS τ13 (xb true) ((tkv τ8 14 22) - 14) ((tkv τ9 4 6) - 5) ((tkv τ12 100 10099) - 100) := ⟨_, rfl⟩
        refine zk_st (τ2 := τ14) eτ14.symm ?_
        have Kτ14 : RK9 pk τ13 τ14 := by rw [eτ14]; exact rk_atS Iτ13 _ _ _ _
        have Iτ14 : RI9 pk τ14 := Kτ14.1
        have Jτ14 := Iτ14
        have zτ14 := Iτ14.t
        unfold tkT tkP at zτ14
        obtain ⟨i1τ14, i2τ14, i3τ14, i4τ14, i5τ14, i6τ14, i7τ14⟩ := Jτ14
        refine hv_dif_ne C 119 dX5_readTest_111 (by decide)  (fun h111 => ?_) (fun h111 => ?_)
        · skip
          exact zk_vret C hr hlk (by subst_vars; unfold rtS; (first | rw [if_pos (by first | assumption | omega | (unfold tkT; omega))] | rw [if_neg (by first | assumption | omega | (unfold tkT; omega))]); unfold rt2 rt3; (first | rw [if_pos (by first | assumption | omega | (unfold tkT; omega))] | rw [if_neg (by first | assumption | omega | (unfold tkT; omega))]); unfold rt4; (first | rw [if_pos (by first | assumption | omega | (unfold tkT; omega))] | rw [if_neg (by first | assumption | omega | (unfold tkT; omega))]); (try (first | rw [if_pos (by first | assumption | omega | (unfold tkT; omega))] | rw [if_neg (by first | assumption | omega | (unfold tkT; omega))])); (try rfl)) dX5_readTest_119
        · skip
          refine hv_aload_n C 0 5 dX5_readTest_114 rfl rfl ?_
          refine hv_iload_n C 1 4 dX5_readTest_115 rfl rfl ?_
          refine zk_callV [.int (iz (τ 46 (((τ 44 3) : Int)).toNat))] [] C K (cv_at 44 rfl) rfl (k_X5_oneTooMany l  τ14 (τ 46 (((τ 44 3) : Int)).toNat) hk Iτ14 (by omega)) ck_X5_82 (by decide) ⟨Nat.zero_le _, Nat.zero_le _⟩ rfl (Nat.le_of_ble_eq_true rfl) dX5_readTest_116 ?_
          obtain ⟨τ15, eτ15⟩ : ∃ t9 : Nat → Nat → Int, t9 = otm τ14 (τ 46 (((τ 44 3) : Int)).toNat) := ⟨_, rfl⟩
          refine zk_st (τ2 := τ15) eτ15.symm ?_
          have Kτ15 : RK9 pk τ14 τ15 := by rw [eτ15]; exact rk_otm Iτ14 (by omega)
          have Iτ15 : RI9 pk τ15 := Kτ15.1
          have Jτ15 := Iτ15
          have zτ15 := Iτ15.t
          unfold tkT tkP at zτ15
          obtain ⟨i1τ15, i2τ15, i3τ15, i4τ15, i5τ15, i6τ15, i7τ15⟩ := Jτ15
          exact zk_vret C hr hlk (by subst_vars; unfold rtS; (first | rw [if_pos (by first | assumption | omega | (unfold tkT; omega))] | rw [if_neg (by first | assumption | omega | (unfold tkT; omega))]); unfold rt2 rt3; (first | rw [if_pos (by first | assumption | omega | (unfold tkT; omega))] | rw [if_neg (by first | assumption | omega | (unfold tkT; omega))]); unfold rt4; (first | rw [if_pos (by first | assumption | omega | (unfold tkT; omega))] | rw [if_neg (by first | assumption | omega | (unfold tkT; omega))]); (try (first | rw [if_pos (by first | assumption | omega | (unfold tkT; omega))] | rw [if_neg (by first | assumption | omega | (unfold tkT; omega))])); (try rfl)) dX5_readTest_119
