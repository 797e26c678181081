/-! both readers side by side -/
def LX9 (A : Nat → Int) (n : Int) (τ : Nat → Nat → Int) : Prop := τ 44 2 = (tn9 A n : Int) ∧ (∀ i, i < tn9 A n → τ 45 i = tv9 A n (pl9q A n i) ∧ τ 46 i = pl9q A n i ∧ pl9q A n i < n) ∧ τ 45 (tn9 A n) = 0 ∧ τ 46 (tn9 A n) = n ∧ pl9q A n (tn9 A n) = n
def byn9 (A : Nat → Int) (n : Int) : Prop := (0 ≤ n ∧ n ≤ 500) ∧ ∀ q, 0 ≤ q → q < n → 0 ≤ by9 A n q
/-- both look at the same token -/
def cur9 (A : Nat → Int) (n : Int) (τ s : Nat → Nat → Int) : Prop := LX9 A n τ ∧ (0 ≤ τ 44 3 ∧ τ 44 3 ≤ τ 44 2) ∧ tkT τ = ctk (s 0) ∧ tkP τ = s 0 4 ∧ kd8 (s 0) ∧ s 0 2 = n ∧ (τ 44 3 < τ 44 2 → s 0 3 = qs9 A n ((τ 44 3).toNat + 1) ∧ s 0 5 ≠ 0) ∧ (τ 44 3 = τ 44 2 → s 0 5 = 0) ∧ ∀ i, 1760 ≤ i → s 1 i = A i
section SMS
variable {A : Nat → Int} {n : Int} {τ s T t : Nat → Nat → Int} {k : Nat}
theorem cur_k (h : cur9 A n τ s) (h2 : T 44 2 = τ 44 2) (h3 : T 44 3 = τ 44 3) (h5 : T 45 = τ 45) (h6 : T 46 = τ 46) (g0 : ∀ i, i ≤ 8 → t 0 i = s 0 i) (g1 : ∀ i, 1760 ≤ i → t 1 i = s 1 i) : cur9 A n T t := by
  obtain ⟨⟨l1, l2, l3, l4, l5⟩, c2, c3, c4, c5, c6, c7, c8, c9⟩ := h
  have ek : ctk (t 0) = ctk (s 0) := by
    unfold ctk
    rw [g0 5 (by decide), g0 6 (by decide), g0 7 (by decide), g0 8 (by decide)]
  refine ⟨⟨by rw [h2]; exact l1, by rw [h5, h6]; exact l2, by rw [h5]; exact l3, by rw [h6]; exact l4, l5⟩, by rw [h2, h3]; exact c2, ?_, ?_, ?_, by rw [g0 2 (by decide)]; exact c6, ?_, ?_, fun i hi => (g1 i hi).trans (c9 i hi)⟩
  · unfold tkT at c3 ⊢
    rw [h3, h5, ek]; exact c3
  · unfold tkP at c4 ⊢
    rw [h3, h6, g0 4 (by decide)]; exact c4
  · unfold kd8 at c5 ⊢
    rw [g0 5 (by decide), g0 6 (by decide), g0 7 (by decide), g0 8 (by decide)]; exact c5
  · rw [h2, h3, g0 3 (by decide), g0 5 (by decide)]; exact c7
  · rw [h2, h3, g0 5 (by decide)]; exact c8
theorem cur_a (hn : byn9 A n) (h : cur9 A n τ s) (hs : s 0 5 ≠ 0) : cur9 A n (sA τ 44 (ua (τ 44) 3 (τ 44 3 + 1))) (adS s) := by
  obtain ⟨⟨l1, l2, l3, l4, l5⟩, c2, c3, c4, c5, c6, c7, c8, c9⟩ := h
  have lt : τ 44 3 < τ 44 2 := by
    apply Decidable.byContradiction
    intro z
    exact hs (c8 (by omega))
  obtain ⟨q1, q2⟩ := c7 lt
  obtain ⟨k, hk⟩ : ∃ k : Nat, τ 44 3 = (k : Int) := ⟨(τ 44 3).toNat, by omega⟩
  have e1 : (τ 44 3).toNat = k := by omega
  rw [e1] at q1
  have kt : k < tn9 A n := by omega
  have pr := pl_r (A := A) (n := n) hn.1.1 (k + 1) (fun i hi => (l2 i (by omega)).2.2)
  have ad := adv_tok (A := A) (F := s 0) (n := n) c6 (by omega) hn.2
  rw [q1] at ad
  have eF : adS s 0 = adv9 A (s 0) := by
    unfold adS
    rw [sA_at]
    exact adv_c c9 (s 0)
  have eA : adS s 1 = s 1 := sA_ne _ _ (by decide)
  have t44 : sA τ 44 (ua (τ 44) 3 (τ 44 3 + 1)) 44 = ua (τ 44) 3 (τ 44 3 + 1) := sA_at _ _ _
  have t45 : sA τ 44 (ua (τ 44) 3 (τ 44 3 + 1)) 45 = τ 45 := sA_ne _ _ (by decide)
  have t46 : sA τ 44 (ua (τ 44) 3 (τ 44 3 + 1)) 46 = τ 46 := sA_ne _ _ (by decide)
  have f2 : ua (τ 44) 3 (τ 44 3 + 1) 2 = τ 44 2 := rfl
  have f3 : ua (τ 44) 3 (τ 44 3 + 1) 3 = τ 44 3 + 1 := rfl
  have ex : sk9 A n (qs9 A n (k + 1)) = pl9q A n (k + 1) := rfl
  rw [ex] at ad
  have i1 : (τ 44 3 + 1).toNat = k + 1 := by omega
  refine ⟨⟨by rw [t44, f2]; exact l1, by rw [t45, t46]; exact l2, by rw [t45]; exact l3, by rw [t46]; exact l4, l5⟩, by rw [t44, f2, f3]; omega, ?_, ?_, by rw [eF]; exact ad.2.2.1, by rw [eF]; exact ad.2.1, ?_, ?_, by rw [eA]; exact c9⟩
  · unfold tkT
    rw [t44, t45, f3, i1, eF]
    by_cases c : k + 1 < tn9 A n
    · rw [(ad.2.2.2.1 (l2 _ c).2.2).2.1]; exact (l2 _ c).1
    · have e : k + 1 = tn9 A n := by omega
      rw [e] at ad ⊢
      rw [l3]
      have z := ad.2.2.2.2 (by omega)
      unfold ctk
      rw [if_pos z]
  · unfold tkP
    rw [t44, t46, f3, i1, eF, ad.1]
    by_cases c : k + 1 < tn9 A n
    · exact (l2 _ c).2.1
    · have e : k + 1 = tn9 A n := by omega
      rw [e, l4, l5]
  · rw [t44, f2, f3, i1, eF]
    intro z
    have c : k + 1 < tn9 A n := by omega
    have w := ad.2.2.2.1 (l2 _ c).2.2
    exact ⟨w.1, w.2.2⟩
  · rw [t44, f2, f3, eF]
    intro z
    have e : k + 1 = tn9 A n := by omega
    rw [e] at ad
    exact ad.2.2.2.2 (by omega)
/-- the lines that have been read -/
def rw8 (τ : Nat → Nat → Int) (Rd : Nat → Int) (x q : Nat) : Prop := τ 103 (16 * x + 4 * q + 0) = Rd (20 * x + 1 + 4 * q) ∧ τ 103 (16 * x + 4 * q + 1) = Rd (20 * x + 1 + 4 * q + 1) - 1 ∧ τ 103 (16 * x + 4 * q + 2) = sgn9 (Rd (20 * x + 1 + 4 * q + 2)) ∧ τ 103 (16 * x + 4 * q + 3) = Rd (20 * x + 1 + 4 * q + 3) ∧ (1 ≤ Rd (20 * x + 1 + 4 * q + 1) ∧ Rd (20 * x + 1 + 4 * q + 1) ≤ 9) ∧ (60 ≤ Rd (20 * x + 1 + 4 * q + 2) ∧ Rd (20 * x + 1 + 4 * q + 2) ≤ 62) ∧ (0 ≤ Rd (20 * x + 1 + 4 * q + 3) ∧ Rd (20 * x + 1 + 4 * q + 3) ≤ 9999)
def ln8 (τ : Nat → Nat → Int) (Rd : Nat → Int) (x : Nat) : Prop := τ 101 x = deed Rd (20 * x) ∧ τ 102 x = Rd (20 * x) ∧ (0 ≤ Rd (20 * x) ∧ Rd (20 * x) ≤ 4) ∧ (20 ≤ Rd (20 * x + 17) ∧ Rd (20 * x + 17) ≤ 22) ∧ (0 ≤ Rd (20 * x + 18) ∧ Rd (20 * x + 18) ≤ 9999) ∧ ∀ q : Nat, (q : Int) < Rd (20 * x) → rw8 τ Rd x q
def Dt9 (k : Nat) (τ s : Nat → Nat → Int) : Prop := τ 100 0 = s 0 10 ∧ (0 ≤ s 0 10 ∧ s 0 10 ≤ 16) ∧ (∀ x : Nat, (x : Int) < s 0 10 → ln8 τ (s 3) x) ∧ (s 0 10 < 16 → τ 102 (s 0 10).toNat = (k : Int) ∧ k ≤ 4 ∧ ∀ q, q < k → rw8 τ (s 3) (s 0 10).toNat q) ∧ ∀ x : Nat, s 0 10 < (x : Int) → x < 16 → τ 102 x = 0
def Cl9 (k : Nat) (τ s : Nat → Nat → Int) : Prop := τ 44 4 = -1 ∧ s 1 11 = 0 ∧ s 1 12 = -1 ∧ Dt9 k τ s
def Mn9 (τ s : Nat → Nat → Int) : Prop := s 1 11 = 3 ∧ 0 ≤ s 1 12 ∧ τ 44 4 = s 1 12
def Ok9 (A : Nat → Int) (n : Int) (k : Nat) (τ s : Nat → Nat → Int) : Prop := cur9 A n τ s ∧ τ 44 6 = 0 ∧ s 0 9 = 0 ∧ (Cl9 k τ s ∨ Mn9 τ s)
def Bd9 (τ s : Nat → Nat → Int) : Prop := τ 44 6 = 1 ∧ s 0 9 = 1 ∧ s 1 11 = 1 ∧ s 1 12 = τ 44 7
def Sim9 (A : Nat → Int) (n : Int) (k : Nat) (τ s : Nat → Nat → Int) : Prop := Ok9 A n k τ s ∨ Bd9 τ s
theorem dt_k (h : Dt9 k τ s) (h0 : T 100 = τ 100) (h1 : T 101 = τ 101) (h2 : T 102 = τ 102) (h3 : T 103 = τ 103) (g1 : t 0 10 = s 0 10) (g2 : t 3 = s 3) : Dt9 k T t := by
  unfold Dt9 ln8 rw8 at h ⊢
  rw [h0, h1, h2, h3, g1, g2]
  exact h
theorem sm_adv (hn : byn9 A n) (h : Ok9 A n k τ s) (hs : s 0 5 ≠ 0) : Ok9 A n k (sA τ 44 (ua (τ 44) 3 (τ 44 3 + 1))) (adS s) := by
  obtain ⟨c, h6, h9, hd⟩ := h
  have t44 : sA τ 44 (ua (τ 44) 3 (τ 44 3 + 1)) 44 = ua (τ 44) 3 (τ 44 3 + 1) := sA_at _ _ _
  have to : ∀ j, j ≠ 44 → sA τ 44 (ua (τ 44) 3 (τ 44 3 + 1)) j = τ j := fun j hj => sA_ne _ _ hj
  have eF : adS s 0 = adv9 (s 1) (s 0) := sA_at _ _ _
  have eo : ∀ j, j ≠ 0 → adS s j = s j := fun j hj => sA_ne _ _ hj
  refine ⟨cur_a hn c hs, by rw [t44]; exact h6, by rw [eF, adv_o (Or.inr (by decide))]; exact h9, ?_⟩
  rcases hd with ⟨a1, a2, a3, a4⟩ | ⟨a1, a2, a3⟩
  · exact Or.inl ⟨by rw [t44]; exact a1, by rw [eo 1 (by decide)]; exact a2, by rw [eo 1 (by decide)]; exact a3, dt_k a4 (to 100 (by decide)) (to 101 (by decide)) (to 102 (by decide)) (to 103 (by decide)) (by rw [eF, adv_o (Or.inr (by decide))]) (eo 3 (by decide))⟩
  · exact Or.inr ⟨by rw [eo 1 (by decide)]; exact a1, by rw [eo 1 (by decide)]; exact a2, by rw [t44, eo 1 (by decide)]; exact a3⟩
theorem st_v (h : s 0 9 = 0) : (stS s) 0 9 = 1 ∧ (stS s) 1 11 = 1 ∧ (stS s) 1 12 = s 0 4 := by
  unfold stS
  rw [if_neg (by omega)]
  refine ⟨?_, ?_, ?_⟩
  · rw [u2_o (by omega), u2_o (by omega), u2_sA, sA_at, ua_at]
  · rw [u2_o (by omega), u2_sA, sA_at, ua_at]
  · rw [u2_sA, sA_at, ua_at]
theorem st_id (h : s 0 9 = 1) : stS s = s := by
  unfold stS
  rw [if_pos (by omega)]
theorem sm_bad (h : Ok9 A n k τ s) : Bd9 (sA τ 44 (ua (ua (τ 44) 6 1) 7 (tkP τ))) (stS s) := by
  obtain ⟨c, h6, h9, hd⟩ := h
  obtain ⟨v1, v2, v3⟩ := st_v h9
  refine ⟨by rw [sA_at]; rfl, v1, v2, ?_⟩
  rw [v3, sA_at]
  exact c.2.2.2.1.symm
/-- a token taken, against what the reference asks of it -/
theorem sm_tks (hn : byn9 A n) {fi la : Int} {G : Prop} (hf : 1 ≤ fi) (h : Ok9 A n k τ s) (hG : (fi ≤ ctk (s 0) ∧ ctk (s 0) ≤ la) ↔ G) : (G → Ok9 A n k (tks τ fi la) (adS s) ∧ tkv τ fi la = ctk (s 0) ∧ s 0 5 ≠ 0) ∧ (¬ G → Bd9 (tks τ fi la) (stS s) ∧ tkv τ fi la = 1) := by
  have h0 := h
  obtain ⟨c, h6, h9, hd⟩ := h
  have cv9 := ctk_v c.2.2.2.2.1
  have cT := c.2.2.1
  refine ⟨fun g => ?_, fun g => ?_⟩
  · have rg9 := hG.mpr g
    have s5 : s 0 5 ≠ 0 := by omega
    have lt : τ 44 3 < τ 44 2 := by
      have c2 := c.2.1
      apply Decidable.byContradiction
      intro z
      exact s5 (c.2.2.2.2.2.2.2.1 (by omega))
    have ok : tkO τ fi la := ⟨by rw [cT]; exact rg9, lt⟩
    have e1 : tks τ fi la = sA τ 44 (ua (τ 44) 3 (τ 44 3 + 1)) := by unfold tks; rw [if_neg (by omega), if_pos ok]
    have e2 : tkv τ fi la = tkT τ := by unfold tkv; rw [if_neg (by omega), if_pos ok]
    rw [e1, e2, cT]
    exact ⟨sm_adv hn h0 s5, rfl, s5⟩
  · have ok : ¬ tkO τ fi la := fun z => g (hG.mp (by rw [← cT]; exact z.1))
    have e1 : tks τ fi la = sA τ 44 (ua (ua (τ 44) 6 1) 7 (tkP τ)) := by unfold tks; rw [if_neg (by omega), if_neg ok]
    have e2 : tkv τ fi la = 1 := by unfold tkv; rw [if_neg (by omega), if_neg ok]
    rw [e1, e2]
    exact ⟨sm_bad h0, rfl⟩
theorem bd_tks (h : Bd9 τ s) (fi la : Int) : tks τ fi la = τ ∧ tkv τ fi la = 1 := by
  have h6 := h.1
  unfold tks tkv
  rw [if_pos (by omega), if_pos (by omega)]
  exact ⟨rfl, rfl⟩
/-- a sign that must stand there -/
theorem sm_mu (hn : byn9 A n) {c : Int} (hc : c = 2 ∨ c = 3) (h : Sim9 A n k τ s) : Sim9 A n k (tks τ c c) (muS s (56 + c)) := by
  rcases h with h | h
  · have cv9 := ctk_v h.1.2.2.2.2.1
    obtain ⟨g1, g2⟩ := sm_tks hn (fi := c) (la := c) (G := s 0 5 = 2 ∧ s 0 7 = 56 + c) (by omega) h (by omega)
    by_cases g : s 0 5 = 2 ∧ s 0 7 = 56 + c
    · unfold muS
      rw [if_pos ⟨h.2.2.1, g⟩]
      exact Or.inl (g1 g).1
    · unfold muS
      rw [if_neg (fun z => g z.2)]
      exact Or.inr (g2 g).1
  · have z := h.2.1
    rw [(bd_tks h c c).1]
    unfold muS
    rw [if_neg (by omega), st_id z]
    exact Or.inr h
theorem sm_nb (hn : byn9 A n) (h : Sim9 A n k τ s) : Sim9 A n k (tks τ 100 10099) (nbS s) := by
  rcases h with h | h
  · have cv9 := ctk_v h.1.2.2.2.2.1
    obtain ⟨g1, g2⟩ := sm_tks hn (fi := 100) (la := 10099) (G := s 0 5 = 1) (by omega) h (by omega)
    by_cases g : s 0 5 = 1
    · unfold nbS
      rw [if_pos ⟨h.2.2.1, g⟩]
      exact Or.inl (g1 g).1
    · unfold nbS
      rw [if_neg (fun z => g z.2)]
      exact Or.inr (g2 g).1
  · have z := h.2.1
    rw [(bd_tks h _ _).1]
    unfold nbS
    rw [if_neg (by omega), st_id z]
    exact Or.inr h
end SMS
