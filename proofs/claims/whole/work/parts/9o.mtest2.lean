/-! a test: the class's against the reference's -/
def Co9 (A : Nat → Int) (n : Int) (τ s : Nat → Nat → Int) : Prop := cur9 A n τ s ∧ τ 44 6 = 0 ∧ s 0 9 = 0
def Kp9 (τ s T t : Nat → Nat → Int) : Prop := (∃ a : Int, T = sA τ 44 (ua (τ 44) 3 a)) ∧ t 1 = s 1 ∧ t 3 = s 3 ∧ t 0 10 = s 0 10
section TES
variable {A : Nat → Int} {n : Int} {τ s T t U u : Nat → Nat → Int} {k : Nat}
theorem kp_r (τ s : Nat → Nat → Int) : Kp9 τ s τ s := ⟨⟨τ 44 3, by rw [← ua_idq (τ 44) 3]; exact (sA_id τ 44).symm⟩, rfl, rfl, rfl⟩
theorem kp_tr (h : Kp9 τ s T t) (g : Kp9 T t U u) : Kp9 τ s U u := by
  obtain ⟨⟨a, h1⟩, h2, h3, h4⟩ := h
  obtain ⟨⟨c, g1⟩, g2, g3, g4⟩ := g
  refine ⟨⟨c, ?_⟩, g2.trans h2, g3.trans h3, g4.trans h4⟩
  rw [g1, h1, sA_at, sA_sA, ua_ua]
theorem co_k (h : Co9 A n τ s) (g0 : t 0 = s 0) (g1 : t 1 = s 1) : Co9 A n τ t := ⟨cur_k h.1 rfl rfl rfl rfl (fun i _ => by rw [g0]) (fun i _ => by rw [g1]), h.2.1, by rw [g0]; exact h.2.2⟩
theorem co_tks (hn : byn9 A n) {fi la : Int} {G : Prop} (hf : 1 ≤ fi) (h : Co9 A n τ s) (hG : (fi ≤ ctk (s 0) ∧ ctk (s 0) ≤ la) ↔ G) : (G → Co9 A n (tks τ fi la) (adS s) ∧ Kp9 τ s (tks τ fi la) (adS s) ∧ tkv τ fi la = ctk (s 0)) ∧ (¬ G → Bd9 (tks τ fi la) (stS s) ∧ tkv τ fi la = 1) := by
  obtain ⟨c, h6, h9⟩ := h
  have cv9 := ctk_v c.2.2.2.2.1
  have cT := c.2.2.1
  refine ⟨fun g => ?_, fun g => ?_⟩
  · have rg9 := hG.mpr g
    have s5 : s 0 5 ≠ 0 := by omega
    have lt : τ 44 3 < τ 44 2 := by
      have c2 := c.2.1
      apply Decidable.byContradiction
      intro z
      exact s5 (c.2.2.2.2.2.2.2.1 (by omega))
    have ok : tkO τ fi la := ⟨by rw [cT]; exact rg9, lt⟩
    have e1 : tks τ fi la = sA τ 44 (ua (τ 44) 3 (τ 44 3 + 1)) := by unfold tks; rw [if_neg (by omega), if_pos ok]
    have e2 : tkv τ fi la = tkT τ := by unfold tkv; rw [if_neg (by omega), if_pos ok]
    have eF : adS s 0 = adv9 (s 1) (s 0) := sA_at _ _ _
    have eo : ∀ j, j ≠ 0 → adS s j = s j := fun j hj => sA_ne _ _ hj
    rw [e1, e2, cT]
    exact ⟨⟨cur_a hn c s5, by rw [sA_at]; exact h6, by rw [eF, adv_o (Or.inr (by decide))]; exact h9⟩, ⟨⟨_, rfl⟩, eo 1 (by decide), eo 3 (by decide), by rw [eF, adv_o (Or.inr (by decide))]⟩, rfl⟩
  · have ok : ¬ tkO τ fi la := fun z => g (hG.mp (by rw [← cT]; exact z.1))
    have e1 : tks τ fi la = sA τ 44 (ua (ua (τ 44) 6 1) 7 (tkP τ)) := by unfold tks; rw [if_neg (by omega), if_neg ok]
    have e2 : tkv τ fi la = 1 := by unfold tkv; rw [if_neg (by omega), if_neg ok]
    obtain ⟨v1, v2, v3⟩ := st_v h9
    rw [e1, e2]
    refine ⟨⟨by rw [sA_at]; rfl, v1, v2, ?_⟩, rfl⟩
    rw [v3, sA_at]
    exact c.2.2.2.1.symm
theorem te0_o (s : Nat → Nat → Int) (b : Int) {j : Nat} (h : j ≠ 4) : te0 s b j = s j := by
  unfold te0
  rw [u2_sA, sA_ne _ _ h, u2_sA, sA_ne _ _ h, u2_sA, sA_ne _ _ h, u2_sA, sA_ne _ _ h]
theorem te0_4 (s : Nat → Nat → Int) (b : Int) : te0 s b 4 0 = b ∧ te0 s b 4 1 = s 0 8 ∧ te0 s b 4 2 = 61 ∧ te0 s b 4 3 = 1 := by
  unfold te0
  simp only [u2_sA, sA_at]
  exact ⟨rfl, rfl, rfl, rfl⟩
theorem bd_u (h : Bd9 τ s) (g0 : t 0 9 = s 0 9) (g1 : t 1 = s 1) : Bd9 τ t := ⟨h.1, by rw [g0]; exact h.2.1, by rw [g1]; exact h.2.2.1, by rw [g1]; exact h.2.2.2⟩
theorem bd_rt4 (h : Bd9 τ s) (pl : Int) (nt : Bool) (sb sg nu : Int) : rt4 pl nt sb sg nu τ = τ := by
  have := h.1
  unfold rt4
  rw [if_neg (by omega)]
/-- what a test that was read says on both sides -/
def tv8 (nt : Bool) (sb sg nu : Int) (t : Nat → Nat → Int) : Prop := xb nt = t 4 0 ∧ sb = t 4 1 - 1 ∧ (1 ≤ t 4 1 ∧ t 4 1 ≤ 9) ∧ sg = sgn9 (t 4 2) ∧ (60 ≤ t 4 2 ∧ t 4 2 ≤ 62) ∧ nu = t 4 3 ∧ (0 ≤ t 4 3 ∧ t 4 3 ≤ 9999)
def tp8 (A : Nat → Int) (n pl : Int) (τ s T t : Nat → Nat → Int) : Prop := Bd9 T t ∨ ∃ (nt : Bool) (sb sg nu : Int) (V : Nat → Nat → Int), Co9 A n V t ∧ Kp9 τ s V t ∧ T = rt4 pl nt sb sg nu V ∧ tv8 nt sb sg nu t
/-- the subject and what follows -/
theorem sm_te2 (hn : byn9 A n) {pl : Int} (nt : Bool) (h : Co9 A n τ s) (h40 : xb nt = s 4 0) (h41 : s 4 1 = s 0 8 ∨ ¬ s 0 5 = 3) (h42 : s 4 2 = 61) (h43 : s 4 3 = 1) : tp8 A n pl τ s (rt2 pl nt τ) (te2 s) := by
  have cv9 := ctk_v h.1.2.2.2.2.1
  obtain ⟨g1, g2⟩ := co_tks hn (fi := 14) (la := 22) (G := s 0 5 = 3 ∧ (1 ≤ s 0 8 ∧ s 0 8 ≤ 9)) (by omega) h (by omega)
  unfold rt2 te2
  by_cases g : s 0 5 = 3 ∧ (1 ≤ s 0 8 ∧ s 0 8 ≤ 9)
  · rw [if_pos ⟨h.2.2, g⟩]
    obtain ⟨c1, k1, v1⟩ := g1 g
    have s41 : s 4 1 = s 0 8 := by
      rcases h41 with z | z
      · exact z
      · exact absurd g.1 z
    have v2 : tkv τ 14 22 - 14 = s 4 1 - 1 := by omega
    have e4 : adS s 4 = s 4 := sA_ne _ _ (by decide)
    rw [v2]
    unfold te3
    rw [e4]
    by_cases c2 : s 4 1 ≤ 2
    · rw [if_pos c2]
      unfold rt3
      rw [if_neg (by omega)]
      exact Or.inr ⟨nt, s 4 1 - 1, 0, 1, _, c1, k1, rfl, by rw [e4]; exact h40, by rw [e4], by rw [e4]; omega, by rw [e4, h42]; rfl, by rw [e4]; omega, by rw [e4]; omega, by rw [e4]; omega⟩
    · rw [if_neg c2]
      unfold rt3
      rw [if_pos (by omega)]
      -- the sign
      have oo : ∀ j, j ≠ 4 → (u2 (adS s) 4 2 (adS s 0 7)) j = adS s j := fun j hj => by rw [u2_sA, sA_ne _ _ hj]
      have e44 : (u2 (adS s) 4 2 (adS s 0 7)) 4 = ua (s 4) 2 (adS s 0 7) := by rw [u2_sA, sA_at, e4]
      obtain ⟨x, hx⟩ : ∃ x, x = u2 (adS s) 4 2 (adS s 0 7) := ⟨_, rfl⟩
      rw [← hx] at oo e44
      rw [← hx]
      have c3 : Co9 A n (tks τ 14 22) x := co_k c1 (oo 0 (by decide)) (oo 1 (by decide))
      have k3 : Kp9 τ s (tks τ 14 22) x := ⟨k1.1, (oo 1 (by decide)).trans k1.2.1, (oo 3 (by decide)).trans k1.2.2.1, by rw [oo 0 (by decide)]; exact k1.2.2.2⟩
      have x7 : x 4 2 = x 0 7 := by rw [e44, oo 0 (by decide)]; rfl
      have x0 : x 4 0 = s 4 0 := by rw [e44]; rfl
      have x1 : x 4 1 = s 4 1 := by rw [e44]; rfl
      have x3 : x 4 3 = s 4 3 := by rw [e44]; rfl
      have cv3 := ctk_v c3.1.2.2.2.2.1
      obtain ⟨a1, a2⟩ := co_tks hn (fi := 4) (la := 6) (G := x 0 5 = 2 ∧ ¬ x 0 7 = 58 ∧ ¬ x 0 7 = 59) (by omega) c3 (by omega)
      unfold te4
      by_cases ga : x 0 5 = 2 ∧ ¬ x 0 7 = 58 ∧ ¬ x 0 7 = 59
      · rw [if_pos ga]
        obtain ⟨c5, k5, v5⟩ := a1 ga
        have e5 : adS x 4 = x 4 := sA_ne _ _ (by decide)
        have cv5 := ctk_v c5.1.2.2.2.2.1
        obtain ⟨b1, b2⟩ := co_tks hn (fi := 100) (la := 10099) (G := adS x 0 5 = 1) (by omega) c5 (by omega)
        unfold te5 nbS
        by_cases gb : adS x 0 5 = 1
        · rw [if_pos ⟨c5.2.2, gb⟩]
          obtain ⟨c6, k6, v6⟩ := b1 gb
          have po : ∀ j, j ≠ 4 → (u2 (adS (adS x)) 4 3 (adS x 0 6)) j = adS (adS x) j := fun j hj => by rw [u2_sA, sA_ne _ _ hj]
          have e7 : adS (adS x) 4 = x 4 := by rw [show adS (adS x) 4 = adS x 4 from sA_ne _ _ (by decide)]; exact e5
          have p44 : (u2 (adS (adS x)) 4 3 (adS x 0 6)) 4 = ua (x 4) 3 (adS x 0 6) := by rw [u2_sA, sA_at, e7]
          have y0 : (u2 (adS (adS x)) 4 3 (adS x 0 6)) 4 0 = s 4 0 := by rw [p44]; exact x0
          have y1 : (u2 (adS (adS x)) 4 3 (adS x 0 6)) 4 1 = s 4 1 := by rw [p44]; exact x1
          have y2 : (u2 (adS (adS x)) 4 3 (adS x 0 6)) 4 2 = x 0 7 := by rw [p44]; exact x7
          have y3 : (u2 (adS (adS x)) 4 3 (adS x 0 6)) 4 3 = adS x 0 6 := by rw [p44]; rfl
          have kk := kp_tr (kp_tr k3 k5) k6
          refine Or.inr ⟨nt, s 4 1 - 1, tkv (tks τ 14 22) 4 6 - 5, tkv (tks (tks τ 14 22) 4 6) 100 10099 - 100, _, co_k c6 (po 0 (by decide)) (po 1 (by decide)), ⟨kk.1, (po 1 (by decide)).trans kk.2.1, (po 3 (by decide)).trans kk.2.2.1, by rw [po 0 (by decide)]; exact kk.2.2.2⟩, rfl, ?_, ?_, ?_, ?_, ?_, ?_, ?_⟩
          · rw [y0]; exact h40
          · rw [y1]
          · rw [y1]; omega
          · rw [y2]
            unfold sgn9
            rcases (by omega : x 0 7 = 60 ∨ x 0 7 = 61 ∨ x 0 7 = 62) with z | z | z
            · rw [if_pos z]; omega
            · rw [if_neg (by omega), if_neg (by omega)]; omega
            · rw [if_neg (by omega), if_pos z]; omega
          · rw [y2]; omega
          · rw [y3]; omega
          · rw [y3]; omega
        · rw [if_neg (fun z => gb z.2)]
          have bd := (b2 gb).1
          rw [bd_rt4 bd]
          exact Or.inl (bd_u bd (by rw [u2_o (by omega)]) (by rw [u2_sA, sA_ne _ _ (by decide)]))
      · rw [if_neg ga]
        have bd := (a2 ga).1
        rw [(bd_tks bd 100 10099).1, bd_rt4 bd]
        exact Or.inl bd
  · rw [if_neg (fun z => g z.2)]
    obtain ⟨bd, v⟩ := g2 g
    rw [v]
    unfold rt3
    rw [if_neg (by omega), bd_rt4 bd]
    exact Or.inl bd
theorem sm_te (hn : byn9 A n) (h : Co9 A n τ s) : tp8 A n (tkP τ) τ s (rtS τ) (teS s) := by
  have cv9 := ctk_v h.1.2.2.2.2.1
  have cT := h.1.2.2.1
  unfold rtS teS te1
  by_cases g : s 0 5 = 3 ∧ s 0 8 = 32
  · rw [if_pos (by rw [cT]; omega), if_pos ⟨h.2.2, g⟩]
    obtain ⟨c1, k1, v1⟩ := (co_tks hn (fi := 10) (la := 10) (G := s 0 5 = 3 ∧ s 0 8 = 32) (by omega) h (by omega)).1 g
    obtain ⟨w0, w1, w2, w3⟩ := te0_4 (adS s) 1
    have c2 : Co9 A n (tks τ 10 10) (te0 (adS s) 1) := co_k c1 (te0_o _ _ (by decide)) (te0_o _ _ (by decide))
    rcases sm_te2 hn (pl := tkP τ) true c2 (by rw [w0]; rfl) (Or.inl (by rw [w1, te0_o _ _ (by decide)])) w2 w3 with z | ⟨nt, sb, sg, nu, V, z1, z2, z3, z4⟩
    · exact Or.inl z
    · refine Or.inr ⟨nt, sb, sg, nu, V, z1, kp_tr ⟨k1.1, ?_, ?_, ?_⟩ z2, z3, z4⟩
      · rw [te0_o _ _ (by decide)]; exact k1.2.1
      · rw [te0_o _ _ (by decide)]; exact k1.2.2.1
      · rw [te0_o _ _ (by decide)]; exact k1.2.2.2
  · rw [if_neg (by rw [cT]; omega), if_neg (fun z => g z.2)]
    obtain ⟨w0, w1, w2, w3⟩ := te0_4 s 0
    have c2 : Co9 A n τ (te0 s 0) := co_k h (te0_o _ _ (by decide)) (te0_o _ _ (by decide))
    rcases sm_te2 hn (pl := tkP τ) false c2 (by rw [w0]; rfl) (Or.inl (by rw [w1, te0_o _ _ (by decide)])) w2 w3 with z | ⟨nt, sb, sg, nu, V, z1, z2, z3, z4⟩
    · exact Or.inl z
    · refine Or.inr ⟨nt, sb, sg, nu, V, z1, kp_tr ⟨(kp_r τ s).1, ?_, ?_, ?_⟩ z2, z3, z4⟩
      · rw [te0_o _ _ (by decide)]
      · rw [te0_o _ _ (by decide)]
      · rw [te0_o _ _ (by decide)]
end TES
