/-! the reader's steps, state by state -/
theorem sk9f_r (A : Nat → Int) (n : Int) : ∀ (f : Nat) (q : Int), q ≤ sk9f A n f q ∧ sk9f A n f q ≤ q + f
  | 0, q => by simp [sk9f]
  | f + 1, q => by
    have h := sk9f_r A n f (q + 1)
    unfold sk9f
    split <;> omega
theorem sk9_r {A : Nat → Int} {n q : Int} (h : q ≤ n) : q ≤ sk9 A n q ∧ sk9 A n q ≤ n := by
  have z := sk9f_r A n (n - q).toNat q
  unfold sk9
  omega
theorem lt9f_r (A : Nat → Int) (n p : Int) : ∀ (f : Nat) (q v : Int), q ≤ (lt9f A n p f q v).1 ∧ (lt9f A n p f q v).1 ≤ q + f
  | 0, q, v => by simp [lt9f]
  | f + 1, q, v => by
    have h := lt9f_r A n p f (q + 1) (if q - p < 7 then 32 * v + by9 A n q - 96 else v)
    unfold lt9f
    split
    · omega
    · show q ≤ q ∧ q ≤ _
      omega
theorem lt9_r {A : Nat → Int} {n p q v : Int} (h : q ≤ n) : q ≤ (lt9 A n p q v).1 ∧ (lt9 A n p q v).1 ≤ n := by
  have z := lt9f_r A n p (n - q).toNat q v
  unfold lt9
  omega
theorem dg9f_r (A : Nat → Int) (n p : Int) : ∀ (f : Nat) (q v : Int), nb9 (q - p) v → q ≤ (dg9f A n p f q v).1 ∧ (dg9f A n p f q v).1 ≤ q + f ∧ nb9 ((dg9f A n p f q v).1 - p) (dg9f A n p f q v).2
  | 0, q, v, hv => by simpa [dg9f] using hv
  | f + 1, q, v, hv => by
    unfold dg9f
    split
    · next hb =>
      have h := dg9f_r A n p f (q + 1) (if q - p < 4 then 10 * v + by9 A n q - 48 else v) (by
        split
        · next hd => exact nb_s hv hb hd
        · next hd => exact nb_t hv (by omega))
      exact ⟨by omega, by omega, h.2.2⟩
    · exact ⟨by show q ≤ q; omega, by show q ≤ q + _; omega, hv⟩
theorem dg9_r {A : Nat → Int} {n p q v : Int} (h : q ≤ n) (hv : nb9 (q - p) v) : q ≤ (dg9 A n p q v).1 ∧ (dg9 A n p q v).1 ≤ n ∧ 0 ≤ (dg9 A n p q v).2 ∧ (dg9 A n p q v).2 < 10000 := by
  have z := dg9f_r A n p (n - q).toNat q v hv
  have z2 := nb_r z.2.2
  unfold dg9
  omega
theorem adv_o {A F : Nat → Int} {i : Nat} (h : i < 3 ∨ 8 < i) : adv9 A F i = F i := by
  unfold adv9
  split
  · rw [ua_ne _ _ (by omega), ua_ne _ _ (by omega), ua_ne _ _ (by omega)]
  · split
    · rw [ua_ne _ _ (by omega), ua_ne _ _ (by omega), ua_ne _ _ (by omega), ua_ne _ _ (by omega)]
    · split
      · rw [ua_ne _ _ (by omega), ua_ne _ _ (by omega), ua_ne _ _ (by omega), ua_ne _ _ (by omega)]
      · rw [ua_ne _ _ (by omega), ua_ne _ _ (by omega), ua_ne _ _ (by omega), ua_ne _ _ (by omega)]
theorem adv_F {A F : Nat → Int} (hA : ∀ i, inI (A i)) (hF : ∀ i, inI (F i)) (h2 : 0 ≤ F 2 ∧ F 2 ≤ 500) (h3 : 0 ≤ F 3 ∧ F 3 ≤ F 2) : (∀ i, inI (adv9 A F i)) ∧ (F 3 ≤ adv9 A F 3 ∧ adv9 A F 3 ≤ F 2) ∧ (adv9 A F 5 = 0 ∨ F 3 < adv9 A F 3) := by
  have hp := sk9_r (A := A) (n := F 2) (q := F 3) h3.2
  have hb := by9_in hA (F 2) (sk9 A (F 2) (F 3))
  by_cases c0 : by9 A (F 2) (sk9 A (F 2) (F 3)) < 0
  · rw [adv_0 rfl rfl c0]
    exact ⟨in_ua (in_ua (in_ua hF (by omega)) (by omega)) (by decide), hp, Or.inl rfl⟩
  have hl := by9_lt (A := A) (n := F 2) (q := sk9 A (F 2) (F 3)) (by omega)
  by_cases c1 : 97 ≤ by9 A (F 2) (sk9 A (F 2) (F 3)) ∧ by9 A (F 2) (sk9 A (F 2) (F 3)) ≤ 122
  · rw [adv_1 (q := (lt9 A (F 2) (sk9 A (F 2) (F 3)) (sk9 A (F 2) (F 3)) 0).1) (v := (lt9 A (F 2) (sk9 A (F 2) (F 3)) (sk9 A (F 2) (F 3)) 0).2) rfl rfl c1 rfl rfl rfl]
    have hr := lt9_r (A := A) (n := F 2) (p := sk9 A (F 2) (F 3)) (q := sk9 A (F 2) (F 3) + 1) (v := if sk9 A (F 2) (F 3) - sk9 A (F 2) (F 3) < 7 then 32 * 0 + by9 A (F 2) (sk9 A (F 2) (F 3)) - 96 else 0) (by omega)
    have he := lt9_eq A (F 2) (sk9 A (F 2) (F 3)) (sk9 A (F 2) (F 3)) 0
    rw [if_pos c1] at he
    rw [← he] at hr
    have hw : 0 ≤ wo9 (lt9 A (F 2) (sk9 A (F 2) (F 3)) (sk9 A (F 2) (F 3)) 0).1 (sk9 A (F 2) (F 3)) (lt9 A (F 2) (sk9 A (F 2) (F 3)) (sk9 A (F 2) (F 3)) 0).2 ∧ wo9 (lt9 A (F 2) (sk9 A (F 2) (F 3)) (sk9 A (F 2) (F 3)) 0).1 (sk9 A (F 2) (F 3)) (lt9 A (F 2) (sk9 A (F 2) (F 3)) (sk9 A (F 2) (F 3)) 0).2 ≤ 99 := wr_if (by decide) (wrd_in _)
    refine ⟨in_ua (in_ua (in_ua (in_ua hF (by omega)) (by omega)) (by split <;> decide)) (by omega), ?_, Or.inr ?_⟩
    · show F 3 ≤ (lt9 A (F 2) (sk9 A (F 2) (F 3)) (sk9 A (F 2) (F 3)) 0).1 ∧ (lt9 A (F 2) (sk9 A (F 2) (F 3)) (sk9 A (F 2) (F 3)) 0).1 ≤ F 2
      omega
    · show F 3 < (lt9 A (F 2) (sk9 A (F 2) (F 3)) (sk9 A (F 2) (F 3)) 0).1
      omega
  by_cases c2 : 48 ≤ by9 A (F 2) (sk9 A (F 2) (F 3)) ∧ by9 A (F 2) (sk9 A (F 2) (F 3)) ≤ 57
  · rw [adv_2 (q := (dg9 A (F 2) (sk9 A (F 2) (F 3)) (sk9 A (F 2) (F 3)) 0).1) (v := (dg9 A (F 2) (sk9 A (F 2) (F 3)) (sk9 A (F 2) (F 3)) 0).2) rfl rfl c2 rfl rfl]
    have he := dg9_eq A (F 2) (sk9 A (F 2) (F 3)) (sk9 A (F 2) (F 3)) 0
    rw [if_pos c2, if_pos (by omega)] at he
    have hr := dg9_r (A := A) (n := F 2) (p := sk9 A (F 2) (F 3)) (q := sk9 A (F 2) (F 3) + 1) (v := 10 * 0 + by9 A (F 2) (sk9 A (F 2) (F 3)) - 48) (by omega) (nb_s nb_0 c2 (by omega))
    rw [← he] at hr
    refine ⟨in_ua (in_ua (in_ua (in_ua hF (by omega)) (by omega)) (by split <;> decide)) (by omega), ?_, Or.inr ?_⟩
    · show F 3 ≤ (dg9 A (F 2) (sk9 A (F 2) (F 3)) (sk9 A (F 2) (F 3)) 0).1 ∧ (dg9 A (F 2) (sk9 A (F 2) (F 3)) (sk9 A (F 2) (F 3)) 0).1 ≤ F 2
      omega
    · show F 3 < (dg9 A (F 2) (sk9 A (F 2) (F 3)) (sk9 A (F 2) (F 3)) 0).1
      omega
  · rw [adv_3 rfl rfl c0 c1 c2 rfl]
    refine ⟨in_ua (in_ua (in_ua (in_ua hF (by omega)) (by omega)) (by split <;> decide)) hb, ?_, Or.inr ?_⟩
    · show F 3 ≤ sk9 A (F 2) (F 3) + 1 ∧ sk9 A (F 2) (F 3) + 1 ≤ F 2
      omega
    · show F 3 < sk9 A (F 2) (F 3) + 1
      omega
def stS (σ : Nat → Nat → Int) : Nat → Nat → Int := if ¬ σ 0 9 = 0 then σ else u2 (u2 (u2 σ 0 9 1) 1 11 1) 1 12 (σ 0 4)
def alS (σ : Nat → Nat → Int) : Nat → Nat → Int := if ¬ σ 0 9 = 0 ∨ ¬ σ 1 11 = 0 then σ else u2 (u2 σ 1 11 3) 1 12 (σ 0 4)
def puS (σ : Nat → Nat → Int) (k : Nat) (v : Int) : Nat → Nat → Int := if σ 0 10 < 16 then sA σ 3 (ua (σ 3) (20 * (σ 0 10).toNat + k) v) else σ
def tkS (σ : Nat → Nat → Int) (w : Int) : Nat → Nat → Int := if σ 0 9 = 0 ∧ σ 0 5 = 3 ∧ σ 0 8 = w then adS σ else σ
def muS (σ : Nat → Nat → Int) (w : Int) : Nat → Nat → Int := if σ 0 9 = 0 ∧ σ 0 5 = 2 ∧ σ 0 7 = w then adS σ else stS σ
def nbS (σ : Nat → Nat → Int) : Nat → Nat → Int := if σ 0 9 = 0 ∧ σ 0 5 = 1 then adS σ else stS σ
def te0 (s : Nat → Nat → Int) (b : Int) : Nat → Nat → Int := u2 (u2 (u2 (u2 s 4 0 b) 4 1 (s 0 8)) 4 2 61) 4 3 1
def te1 (s : Nat → Nat → Int) : Nat → Nat → Int := if s 0 9 = 0 ∧ s 0 5 = 3 ∧ s 0 8 = 32 then te0 (adS s) 1 else te0 s 0
def te5 (s : Nat → Nat → Int) : Nat → Nat → Int := u2 (nbS s) 4 3 (s 0 6)
def te4 (s : Nat → Nat → Int) : Nat → Nat → Int := if s 0 5 = 2 ∧ ¬ s 0 7 = 58 ∧ ¬ s 0 7 = 59 then te5 (adS s) else stS s
def te3 (s : Nat → Nat → Int) : Nat → Nat → Int := if s 4 1 ≤ 2 then s else te4 (u2 s 4 2 (s 0 7))
def te2 (s : Nat → Nat → Int) : Nat → Nat → Int := if s 0 9 = 0 ∧ s 0 5 = 3 ∧ (1 ≤ s 0 8 ∧ s 0 8 ≤ 9) then te3 (adS s) else stS s
def teS (s : Nat → Nat → Int) : Nat → Nat → Int := te2 (te1 s)
/-- how far it is to the end of the text -/
def mu9 (s : Nat → Nat → Int) : Nat := (s 0 2 - s 0 3).toNat + (if s 0 5 = 0 then 0 else 1)
/-- what a step of the reader keeps -/
def ke9 (s t : Nat → Nat → Int) : Prop := t 0 10 = s 0 10 ∧ t 0 2 = s 0 2 ∧ (∀ i, ¬ i = 11 → ¬ i = 12 → t 1 i = s 1 i) ∧ (∀ j, ¬ j = 0 → ¬ j = 1 → ¬ j = 3 → ¬ j = 4 → t j = s j) ∧ ∀ i, 10 < i → t 0 i = s 0 i
theorem ke_r (s : Nat → Nat → Int) : ke9 s s := ⟨rfl, rfl, fun _ _ _ => rfl, fun _ _ _ _ _ => rfl, fun _ _ => rfl⟩
theorem ke_t {s t u : Nat → Nat → Int} (h : ke9 s t) (g : ke9 t u) : ke9 s u := ⟨g.1.trans h.1, g.2.1.trans h.2.1, fun i a b => (g.2.2.1 i a b).trans (h.2.2.1 i a b), fun j a b c d => (g.2.2.2.1 j a b c d).trans (h.2.2.2.1 j a b c d), fun i a => (g.2.2.2.2 i a).trans (h.2.2.2.2 i a)⟩
/-- a step of the reader from s to t: what holds goes on to hold, little changes, and the end comes no further away -/
def ps9 (s t : Nat → Nat → Int) : Prop := pI t ∧ ke9 s t ∧ mu9 t ≤ mu9 s
theorem ps_r {s : Nat → Nat → Int} (h : pI s) : ps9 s s := ⟨h, ke_r s, Nat.le_refl _⟩
theorem ps_t {s t u : Nat → Nat → Int} (h : ps9 s t) (g : ps9 t u) : ps9 s u := ⟨g.1, ke_t h.2.1 g.2.1, Nat.le_trans g.2.2 h.2.2⟩
theorem mu_ad {s : Nat → Nat → Int} (h : pI s) (g : ¬ s 0 5 = 0) : mu9 (adS s) < mu9 s := by
  have a := adv_F (A := s 1) (F := s 0) (fun i => h.1 1 i) (fun i => h.1 0 i) h.2.1 h.2.2.1
  have e2 : adS s 0 2 = s 0 2 := adv_o (Or.inl (by decide))
  have e3 : adS s 0 3 = adv9 (s 1) (s 0) 3 := rfl
  have e5 : adS s 0 5 = adv9 (s 1) (s 0) 5 := rfl
  have b := h.2.2.1
  unfold mu9
  rw [e2, e3, e5, if_neg g]
  rcases a.2.2 with q | q
  · rw [if_pos q]; omega
  · split <;> omega
theorem pI_ad {s : Nat → Nat → Int} (h : pI s) : pI (adS s) := by
  have a := adv_F (A := s 1) (F := s 0) (fun i => h.1 1 i) (fun i => h.1 0 i) h.2.1 h.2.2.1
  refine ⟨rg_sA h.1 a.1, ?_, ?_, ?_⟩
  · show 0 ≤ adv9 (s 1) (s 0) 2 ∧ adv9 (s 1) (s 0) 2 ≤ 500
    rw [adv_o (Or.inl (by decide))]; exact h.2.1
  · show 0 ≤ adv9 (s 1) (s 0) 3 ∧ adv9 (s 1) (s 0) 3 ≤ adv9 (s 1) (s 0) 2
    rw [adv_o (i := 2) (Or.inl (by decide))]
    have b := h.2.2.1
    omega
  · show 0 ≤ adv9 (s 1) (s 0) 10 ∧ adv9 (s 1) (s 0) 10 ≤ 1000
    rw [adv_o (Or.inr (by decide))]; exact h.2.2.2
theorem ke_ad (s : Nat → Nat → Int) : ke9 s (adS s) := ⟨adv_o (Or.inr (by decide)), adv_o (Or.inl (by decide)), fun _ _ _ => rfl, fun j a _ _ _ => sA_ne s _ a, fun i a => adv_o (Or.inr (by omega))⟩
theorem ps_ad {s : Nat → Nat → Int} (h : pI s) (g : ¬ s 0 5 = 0) : ps9 s (adS s) := ⟨pI_ad h, ke_ad s, Nat.le_of_lt (mu_ad h g)⟩
theorem u2_o {s : Nat → Nat → Int} {j i a k : Nat} {v : Int} (h : ¬ (a = j ∧ k = i)) : u2 s j i v a k = s a k := by
  show (if a = j then (fun y => if y = i then v else s j y) else s a) k = s a k
  by_cases e : a = j
  · rw [if_pos e]
    show (if k = i then v else s j k) = s a k
    rw [if_neg (by omega), e]
  · rw [if_neg e]
theorem ps_u {s : Nat → Nat → Int} (h : pI s) (j i : Nat) {v : Int} (hv : inI v) (hj : (j = 1 ∧ (i = 11 ∨ i = 12)) ∨ j = 3 ∨ j = 4 ∨ (j = 0 ∧ i = 9)) : ps9 s (u2 s j i v) := by
  have e0 : ∀ k, ¬ k = 9 → u2 s j i v 0 k = s 0 k := by
    intro k hk
    exact u2_o (by omega)
  refine ⟨⟨rg_sA h.1 (in_ua (fun _ => h.1 _ _) hv), ?_, ?_, ?_⟩, ⟨e0 10 (by decide), e0 2 (by decide), ?_, ?_, ?_⟩, ?_⟩
  · rw [e0 2 (by decide)]; exact h.2.1
  · rw [e0 2 (by decide), e0 3 (by decide)]; exact h.2.2.1
  · rw [e0 10 (by decide)]; exact h.2.2.2
  · intro k a b; exact u2_o (by omega)
  · intro k a b c d; funext q; exact u2_o (by omega)
  · intro k a; exact e0 k (by omega)
  · unfold mu9; rw [e0 2 (by decide), e0 3 (by decide), e0 5 (by decide)]; exact Nat.le_refl _
theorem ps_st {s : Nat → Nat → Int} (h : pI s) : ps9 s (stS s) := by
  unfold stS
  split
  · exact ps_r h
  · have a := ps_u h 0 9 (v := 1) (by decide) (by decide)
    have b := ps_u a.1 1 11 (v := 1) (by decide) (by decide)
    exact ps_t (ps_t a b) (ps_u b.1 1 12 (h.1 0 4) (by decide))
theorem ps_al {s : Nat → Nat → Int} (h : pI s) : ps9 s (alS s) := by
  unfold alS
  split
  · exact ps_r h
  · have b := ps_u h 1 11 (v := 3) (by decide) (by decide)
    exact ps_t b (ps_u b.1 1 12 (h.1 0 4) (by decide))
theorem ps_pu {s : Nat → Nat → Int} (h : pI s) (k : Nat) {v : Int} (hv : inI v) : ps9 s (puS s k v) := by
  unfold puS
  split
  · exact ps_u h 3 _ hv (by omega)
  · exact ps_r h
theorem ps_tk {s : Nat → Nat → Int} (h : pI s) (w : Int) : ps9 s (tkS s w) := by
  unfold tkS
  split
  · next c => exact ps_ad h (by omega)
  · exact ps_r h
theorem ps_mu {s : Nat → Nat → Int} (h : pI s) (w : Int) : ps9 s (muS s w) := by
  unfold muS
  split
  · next c => exact ps_ad h (by omega)
  · exact ps_st h
theorem ps_nb {s : Nat → Nat → Int} (h : pI s) : ps9 s (nbS s) := by
  unfold nbS
  split
  · next c => exact ps_ad h (by omega)
  · exact ps_st h
theorem ps_te0 {s : Nat → Nat → Int} (h : pI s) {b : Int} (hb : inI b) : ps9 s (te0 s b) := by
  have a0 := ps_u h 4 0 hb (by decide)
  have a1 := ps_u a0.1 4 1 (h.1 0 8) (by decide)
  have a2 := ps_u a1.1 4 2 (v := 61) (by decide) (by decide)
  exact ps_t (ps_t (ps_t a0 a1) a2) (ps_u a2.1 4 3 (v := 1) (by decide) (by decide))
theorem ps_te1 {s : Nat → Nat → Int} (h : pI s) : ps9 s (te1 s) := by
  unfold te1
  split
  · next c => exact ps_t (ps_ad h (by omega)) (ps_te0 (pI_ad h) (by decide))
  · exact ps_te0 h (by decide)
theorem ps_te5 {s : Nat → Nat → Int} (h : pI s) : ps9 s (te5 s) := ps_t (ps_nb h) (ps_u (ps_nb h).1 4 3 (h.1 0 6) (by decide))
theorem ps_te4 {s : Nat → Nat → Int} (h : pI s) : ps9 s (te4 s) := by
  unfold te4
  split
  · next c => exact ps_t (ps_ad h (by omega)) (ps_te5 (pI_ad h))
  · exact ps_st h
theorem ps_te3 {s : Nat → Nat → Int} (h : pI s) : ps9 s (te3 s) := by
  unfold te3
  split
  · exact ps_r h
  · have a := ps_u h 4 2 (h.1 0 7) (by decide)
    exact ps_t a (ps_te4 a.1)
theorem ps_te2 {s : Nat → Nat → Int} (h : pI s) : ps9 s (te2 s) := by
  unfold te2
  split
  · next c => exact ps_t (ps_ad h (by omega)) (ps_te3 (pI_ad h))
  · exact ps_st h
theorem ps_te {s : Nat → Nat → Int} (h : pI s) : ps9 s (teS s) := ps_t (ps_te1 h) (ps_te2 (ps_te1 h).1)

theorem dX12_takes_0 : decode cX12_takes 0 = .ok (.aload_n 0, 1) := by decide +kernel
theorem dX12_takes_1 : decode cX12_takes 1 = .ok (.getfield 152, 3) := by decide +kernel
theorem dX12_takes_4 : decode cX12_takes 4 = .ok (.ifCond .ne 19, 3) := by decide +kernel
theorem dX12_takes_7 : decode cX12_takes 7 = .ok (.aload_n 0, 1) := by decide +kernel
theorem dX12_takes_8 : decode cX12_takes 8 = .ok (.getfield 127, 3) := by decide +kernel
theorem dX12_takes_11 : decode cX12_takes 11 = .ok (.iconst 3, 1) := by decide +kernel
theorem dX12_takes_12 : decode cX12_takes 12 = .ok (.if_icmp .ne 11, 3) := by decide +kernel
theorem dX12_takes_15 : decode cX12_takes 15 = .ok (.aload_n 0, 1) := by decide +kernel
theorem dX12_takes_16 : decode cX12_takes 16 = .ok (.getfield 137, 3) := by decide +kernel
theorem dX12_takes_19 : decode cX12_takes 19 = .ok (.iload_n 1, 1) := by decide +kernel
theorem dX12_takes_20 : decode cX12_takes 20 = .ok (.if_icmp .eq 5, 3) := by decide +kernel
theorem dX12_takes_23 : decode cX12_takes 23 = .ok (.iconst 0, 1) := by decide +kernel
theorem dX12_takes_24 : decode cX12_takes 24 = .ok (.ireturn, 1) := by decide +kernel
theorem dX12_takes_25 : decode cX12_takes 25 = .ok (.aload_n 0, 1) := by decide +kernel
theorem dX12_takes_26 : decode cX12_takes 26 = .ok (.invokevirtual 156, 3) := by decide +kernel
theorem dX12_takes_29 : decode cX12_takes 29 = .ok (.iconst 1, 1) := by decide +kernel
theorem dX12_takes_30 : decode cX12_takes 30 = .ok (.ireturn, 1) := by decide +kernel
set_option maxRecDepth 100000 in
set_option maxHeartbeats 4000000 in
theorem k_takes (l : Launch) {D : va_G} {cI cZ : ClassId} {a0 : Nat} (σ : Nat → Nat → Int) (w : Int) (hp : pI σ) (r_w : inI w) : moM l D cI cZ a0 yX12_takes cX12_takes 2 (some .boolean) 4 89 [.ref a0, .int (iz w)] σ (some (.int (iz (xb (decide (σ 0 9 = 0 ∧ σ 0 5 = 3 ∧ σ 0 8 = w)))))) (tkS σ w) := by
  refine mo_start (by decide) rfl (Nat.le_of_ble_eq_true rfl) ?_
  intro p e s m args below meth c C K hr hlk
  have hσ := hp.1
  refine hv_aload_n C 0 0 dX12_takes_0 rfl rfl ?_
  refine mo_geti C K (x := σ 0 9) 9 (by decide) rfl mo_hw fl_152 rfl dX12_takes_1 ?_
  refine hv_nm (fun x1 ex1 => ?_)
  have rx1 : inI x1 := by rw [ex1]; exact hσ 0 9
  refine hv_if_ne C 23 dX12_takes_4 (by decide) (by omega) (fun h4 => ?_) (fun h4 => ?_)
  · skip
    refine hv_iconst C dX12_takes_23 ?_
    exact mo_zret (Qc := fun _ _ _ _ => True) C hr hlk ((xb_f (decide_eq_false (by omega))).symm) (by unfold tkS; first | exact if_n (by omega) rfl | exact if_p (by omega) rfl) dX12_takes_24
  · skip
    refine hv_aload_n C 0 0 dX12_takes_7 rfl rfl ?_
    refine mo_geti C K (x := σ 0 5) 5 (by decide) rfl mo_hw fl_127 rfl dX12_takes_8 ?_
    refine hv_nm (fun x2 ex2 => ?_)
    have rx2 : inI x2 := by rw [ex2]; exact hσ 0 5
    refine hv_iconst C dX12_takes_11 ?_
    refine hv_icmp_ne C 23 dX12_takes_12 (by decide) (by omega) (by omega) (fun h12 => ?_) (fun h12 => ?_)
    · skip
      refine hv_iconst C dX12_takes_23 ?_
      exact mo_zret (Qc := fun _ _ _ _ => True) C hr hlk ((xb_f (decide_eq_false (by omega))).symm) (by unfold tkS; first | exact if_n (by omega) rfl | exact if_p (by omega) rfl) dX12_takes_24
    · skip
      refine hv_aload_n C 0 0 dX12_takes_15 rfl rfl ?_
      refine mo_geti C K (x := σ 0 8) 8 (by decide) rfl mo_hw fl_137 rfl dX12_takes_16 ?_
      refine hv_nm (fun x3 ex3 => ?_)
      have rx3 : inI x3 := by rw [ex3]; exact hσ 0 8
      refine hv_iload_n C 1 1 dX12_takes_19 rfl rfl ?_
      refine hv_icmp_eq C 25 dX12_takes_20 (by decide) (by omega) (by omega) (fun h20 => ?_) (fun h20 => ?_)
      · skip
        refine hv_aload_n C 0 0 dX12_takes_25 rfl rfl ?_
        refine mo_call [] [] C K (k_advance l σ  (by assumption)) ck_advance (by decide) rfl (Nat.le_of_ble_eq_true rfl) dX12_takes_26 ?_
        refine hv_iconst C dX12_takes_29 ?_
        exact mo_zret (Qc := fun _ _ _ _ => True) C hr hlk ((xb_t (decide_eq_true (by omega))).symm) (by unfold tkS; first | exact if_n (by omega) rfl | exact if_p (by omega) rfl) dX12_takes_30
      · skip
        refine hv_iconst C dX12_takes_23 ?_
        exact mo_zret (Qc := fun _ _ _ _ => True) C hr hlk ((xb_f (decide_eq_false (by omega))).symm) (by unfold tkS; first | exact if_n (by omega) rfl | exact if_p (by omega) rfl) dX12_takes_24
theorem dX12_must_0 : decode cX12_must 0 = .ok (.aload_n 0, 1) := by decide +kernel
theorem dX12_must_1 : decode cX12_must 1 = .ok (.getfield 152, 3) := by decide +kernel
theorem dX12_must_4 : decode cX12_must 4 = .ok (.ifCond .ne 26, 3) := by decide +kernel
theorem dX12_must_7 : decode cX12_must 7 = .ok (.aload_n 0, 1) := by decide +kernel
theorem dX12_must_8 : decode cX12_must 8 = .ok (.getfield 127, 3) := by decide +kernel
theorem dX12_must_11 : decode cX12_must 11 = .ok (.iconst 2, 1) := by decide +kernel
theorem dX12_must_12 : decode cX12_must 12 = .ok (.if_icmp .ne 18, 3) := by decide +kernel
theorem dX12_must_15 : decode cX12_must 15 = .ok (.aload_n 0, 1) := by decide +kernel
theorem dX12_must_16 : decode cX12_must 16 = .ok (.getfield 146, 3) := by decide +kernel
theorem dX12_must_19 : decode cX12_must 19 = .ok (.iload_n 1, 1) := by decide +kernel
theorem dX12_must_20 : decode cX12_must 20 = .ok (.if_icmp .ne 10, 3) := by decide +kernel
theorem dX12_must_23 : decode cX12_must 23 = .ok (.aload_n 0, 1) := by decide +kernel
theorem dX12_must_24 : decode cX12_must 24 = .ok (.invokevirtual 156, 3) := by decide +kernel
theorem dX12_must_27 : decode cX12_must 27 = .ok (.goto 7, 3) := by decide +kernel
theorem dX12_must_30 : decode cX12_must 30 = .ok (.aload_n 0, 1) := by decide +kernel
theorem dX12_must_31 : decode cX12_must 31 = .ok (.invokevirtual 159, 3) := by decide +kernel
theorem dX12_must_34 : decode cX12_must 34 = .ok (.return_, 1) := by decide +kernel
set_option maxRecDepth 100000 in
set_option maxHeartbeats 4000000 in
theorem k_must (l : Launch) {D : va_G} {cI cZ : ClassId} {a0 : Nat} (σ : Nat → Nat → Int) (w : Int) (hp : pI σ) (r_w : inI w) : moM l D cI cZ a0 yX12_must cX12_must 2 none 4 89 [.ref a0, .int (iz w)] σ none (muS σ w) := by
  refine mo_start (by decide) rfl (Nat.le_of_ble_eq_true rfl) ?_
  intro p e s m args below meth c C K hr hlk
  have hσ := hp.1
  refine hv_aload_n C 0 0 dX12_must_0 rfl rfl ?_
  refine mo_geti C K (x := σ 0 9) 9 (by decide) rfl mo_hw fl_152 rfl dX12_must_1 ?_
  refine hv_nm (fun x1 ex1 => ?_)
  have rx1 : inI x1 := by rw [ex1]; exact hσ 0 9
  refine hv_if_ne C 30 dX12_must_4 (by decide) (by omega) (fun h4 => ?_) (fun h4 => ?_)
  · skip
    refine hv_aload_n C 0 0 dX12_must_30 rfl rfl ?_
    refine mo_call [] [] C K (k_stops l σ  hσ) ck_stops (by decide) rfl (Nat.le_of_ble_eq_true rfl) dX12_must_31 ?_
    exact mo_vret (Qc := fun _ _ _ _ => True) C hr hlk (by unfold muS; first | exact if_n (by omega) rfl | exact if_p (by omega) rfl) dX12_must_34
  · skip
    refine hv_aload_n C 0 0 dX12_must_7 rfl rfl ?_
    refine mo_geti C K (x := σ 0 5) 5 (by decide) rfl mo_hw fl_127 rfl dX12_must_8 ?_
    refine hv_nm (fun x2 ex2 => ?_)
    have rx2 : inI x2 := by rw [ex2]; exact hσ 0 5
    refine hv_iconst C dX12_must_11 ?_
    refine hv_icmp_ne C 30 dX12_must_12 (by decide) (by omega) (by omega) (fun h12 => ?_) (fun h12 => ?_)
    · skip
      refine hv_aload_n C 0 0 dX12_must_30 rfl rfl ?_
      refine mo_call [] [] C K (k_stops l σ  hσ) ck_stops (by decide) rfl (Nat.le_of_ble_eq_true rfl) dX12_must_31 ?_
      exact mo_vret (Qc := fun _ _ _ _ => True) C hr hlk (by unfold muS; first | exact if_n (by omega) rfl | exact if_p (by omega) rfl) dX12_must_34
    · skip
      refine hv_aload_n C 0 0 dX12_must_15 rfl rfl ?_
      refine mo_geti C K (x := σ 0 7) 7 (by decide) rfl mo_hw fl_146 rfl dX12_must_16 ?_
      refine hv_nm (fun x3 ex3 => ?_)
      have rx3 : inI x3 := by rw [ex3]; exact hσ 0 7
      refine hv_iload_n C 1 1 dX12_must_19 rfl rfl ?_
      refine hv_icmp_ne C 30 dX12_must_20 (by decide) (by omega) (by omega) (fun h20 => ?_) (fun h20 => ?_)
      · skip
        refine hv_aload_n C 0 0 dX12_must_30 rfl rfl ?_
        refine mo_call [] [] C K (k_stops l σ  hσ) ck_stops (by decide) rfl (Nat.le_of_ble_eq_true rfl) dX12_must_31 ?_
        exact mo_vret (Qc := fun _ _ _ _ => True) C hr hlk (by unfold muS; first | exact if_n (by omega) rfl | exact if_p (by omega) rfl) dX12_must_34
      · skip
        refine hv_aload_n C 0 0 dX12_must_23 rfl rfl ?_
        refine mo_call [] [] C K (k_advance l σ  (by assumption)) ck_advance (by decide) rfl (Nat.le_of_ble_eq_true rfl) dX12_must_24 ?_
        refine hv_goto C 34 dX12_must_27 (by decide) ?_
        exact mo_vret (Qc := fun _ _ _ _ => True) C hr hlk (by unfold muS; first | exact if_n (by omega) rfl | exact if_p (by omega) rfl) dX12_must_34
theorem dX12_numbered_0 : decode cX12_numbered 0 = .ok (.aload_n 0, 1) := by decide +kernel
theorem dX12_numbered_1 : decode cX12_numbered 1 = .ok (.getfield 143, 3) := by decide +kernel
theorem dX12_numbered_4 : decode cX12_numbered 4 = .ok (.istore_n 1, 1) := by decide +kernel
theorem dX12_numbered_5 : decode cX12_numbered 5 = .ok (.aload_n 0, 1) := by decide +kernel
theorem dX12_numbered_6 : decode cX12_numbered 6 = .ok (.getfield 152, 3) := by decide +kernel
theorem dX12_numbered_9 : decode cX12_numbered 9 = .ok (.ifCond .ne 18, 3) := by decide +kernel
theorem dX12_numbered_12 : decode cX12_numbered 12 = .ok (.aload_n 0, 1) := by decide +kernel
theorem dX12_numbered_13 : decode cX12_numbered 13 = .ok (.getfield 127, 3) := by decide +kernel
theorem dX12_numbered_16 : decode cX12_numbered 16 = .ok (.iconst 1, 1) := by decide +kernel
theorem dX12_numbered_17 : decode cX12_numbered 17 = .ok (.if_icmp .ne 10, 3) := by decide +kernel
theorem dX12_numbered_20 : decode cX12_numbered 20 = .ok (.aload_n 0, 1) := by decide +kernel
theorem dX12_numbered_21 : decode cX12_numbered 21 = .ok (.invokevirtual 156, 3) := by decide +kernel
theorem dX12_numbered_24 : decode cX12_numbered 24 = .ok (.goto 7, 3) := by decide +kernel
theorem dX12_numbered_27 : decode cX12_numbered 27 = .ok (.aload_n 0, 1) := by decide +kernel
theorem dX12_numbered_28 : decode cX12_numbered 28 = .ok (.invokevirtual 159, 3) := by decide +kernel
theorem dX12_numbered_31 : decode cX12_numbered 31 = .ok (.iload_n 1, 1) := by decide +kernel
theorem dX12_numbered_32 : decode cX12_numbered 32 = .ok (.ireturn, 1) := by decide +kernel
set_option maxRecDepth 100000 in
set_option maxHeartbeats 4000000 in
theorem k_numbered (l : Launch) {D : va_G} {cI cZ : ClassId} {a0 : Nat} (σ : Nat → Nat → Int)  (hp : pI σ) : moM l D cI cZ a0 yX12_numbered cX12_numbered 2 (some .int) 4 89 [.ref a0] σ (some (.int (iz (σ 0 6)))) (nbS σ) := by
  refine mo_start (by decide) rfl (Nat.le_of_ble_eq_true rfl) ?_
  intro p e s m args below meth c C K hr hlk
  have hσ := hp.1
  refine hv_aload_n C 0 0 dX12_numbered_0 rfl rfl ?_
  refine mo_geti C K (x := σ 0 6) 6 (by decide) rfl mo_hw fl_143 rfl dX12_numbered_1 ?_
  refine hv_nm (fun x1 ex1 => ?_)
  have rx1 : inI x1 := by rw [ex1]; exact hσ 0 6
  refine hv_istore_n C 1 [(1, .int (iz x1)), (0, .ref a0)] dX12_numbered_4 rfl (by decide) rfl ?_
  refine hv_aload_n C 0 1 dX12_numbered_5 rfl rfl ?_
  refine mo_geti C K (x := σ 0 9) 9 (by decide) rfl mo_hw fl_152 rfl dX12_numbered_6 ?_
  refine hv_nm (fun x2 ex2 => ?_)
  have rx2 : inI x2 := by rw [ex2]; exact hσ 0 9
  refine hv_if_ne C 27 dX12_numbered_9 (by decide) (by omega) (fun h9 => ?_) (fun h9 => ?_)
  · skip
    refine hv_aload_n C 0 1 dX12_numbered_27 rfl rfl ?_
    refine mo_call [] [] C K (k_stops l σ  hσ) ck_stops (by decide) rfl (Nat.le_of_ble_eq_true rfl) dX12_numbered_28 ?_
    refine hv_iload_n C 1 0 dX12_numbered_31 rfl rfl ?_
    exact mo_iret (Qc := fun _ _ _ _ => True) C hr hlk (by assumption) (by unfold nbS; first | exact if_n (by omega) rfl | exact if_p (by omega) rfl) dX12_numbered_32
  · skip
    refine hv_aload_n C 0 1 dX12_numbered_12 rfl rfl ?_
    refine mo_geti C K (x := σ 0 5) 5 (by decide) rfl mo_hw fl_127 rfl dX12_numbered_13 ?_
    refine hv_nm (fun x3 ex3 => ?_)
    have rx3 : inI x3 := by rw [ex3]; exact hσ 0 5
    refine hv_iconst C dX12_numbered_16 ?_
    refine hv_icmp_ne C 27 dX12_numbered_17 (by decide) (by omega) (by omega) (fun h17 => ?_) (fun h17 => ?_)
    · skip
      refine hv_aload_n C 0 1 dX12_numbered_27 rfl rfl ?_
      refine mo_call [] [] C K (k_stops l σ  hσ) ck_stops (by decide) rfl (Nat.le_of_ble_eq_true rfl) dX12_numbered_28 ?_
      refine hv_iload_n C 1 0 dX12_numbered_31 rfl rfl ?_
      exact mo_iret (Qc := fun _ _ _ _ => True) C hr hlk (by assumption) (by unfold nbS; first | exact if_n (by omega) rfl | exact if_p (by omega) rfl) dX12_numbered_32
    · skip
      refine hv_aload_n C 0 1 dX12_numbered_20 rfl rfl ?_
      refine mo_call [] [] C K (k_advance l σ  (by assumption)) ck_advance (by decide) rfl (Nat.le_of_ble_eq_true rfl) dX12_numbered_21 ?_
      refine hv_goto C 31 dX12_numbered_24 (by decide) ?_
      refine hv_iload_n C 1 0 dX12_numbered_31 rfl rfl ?_
      exact mo_iret (Qc := fun _ _ _ _ => True) C hr hlk (by assumption) (by unfold nbS; first | exact if_n (by omega) rfl | exact if_p (by omega) rfl) dX12_numbered_32
theorem dX12_aTest_0 : decode cX12_aTest 0 = .ok (.aload_n 0, 1) := by decide +kernel
theorem dX12_aTest_1 : decode cX12_aTest 1 = .ok (.getfield 20, 3) := by decide +kernel
theorem dX12_aTest_4 : decode cX12_aTest 4 = .ok (.iconst 0, 1) := by decide +kernel
theorem dX12_aTest_5 : decode cX12_aTest 5 = .ok (.aload_n 0, 1) := by decide +kernel
theorem dX12_aTest_6 : decode cX12_aTest 6 = .ok (.bipush 32, 2) := by decide +kernel
theorem dX12_aTest_8 : decode cX12_aTest 8 = .ok (.invokevirtual 162, 3) := by decide +kernel
theorem dX12_aTest_11 : decode cX12_aTest 11 = .ok (.ifCond .eq 7, 3) := by decide +kernel
theorem dX12_aTest_14 : decode cX12_aTest 14 = .ok (.iconst 1, 1) := by decide +kernel
theorem dX12_aTest_15 : decode cX12_aTest 15 = .ok (.goto 4, 3) := by decide +kernel
theorem dX12_aTest_18 : decode cX12_aTest 18 = .ok (.iconst 0, 1) := by decide +kernel
theorem dX12_aTest_19 : decode cX12_aTest 19 = .ok (.iastore, 1) := by decide +kernel
theorem dX12_aTest_20 : decode cX12_aTest 20 = .ok (.aload_n 0, 1) := by decide +kernel
theorem dX12_aTest_21 : decode cX12_aTest 21 = .ok (.getfield 20, 3) := by decide +kernel
theorem dX12_aTest_24 : decode cX12_aTest 24 = .ok (.iconst 1, 1) := by decide +kernel
theorem dX12_aTest_25 : decode cX12_aTest 25 = .ok (.aload_n 0, 1) := by decide +kernel
theorem dX12_aTest_26 : decode cX12_aTest 26 = .ok (.getfield 137, 3) := by decide +kernel
theorem dX12_aTest_29 : decode cX12_aTest 29 = .ok (.iastore, 1) := by decide +kernel
theorem dX12_aTest_30 : decode cX12_aTest 30 = .ok (.aload_n 0, 1) := by decide +kernel
theorem dX12_aTest_31 : decode cX12_aTest 31 = .ok (.getfield 20, 3) := by decide +kernel
theorem dX12_aTest_34 : decode cX12_aTest 34 = .ok (.iconst 2, 1) := by decide +kernel
theorem dX12_aTest_35 : decode cX12_aTest 35 = .ok (.bipush 61, 2) := by decide +kernel
theorem dX12_aTest_37 : decode cX12_aTest 37 = .ok (.iastore, 1) := by decide +kernel
theorem dX12_aTest_38 : decode cX12_aTest 38 = .ok (.aload_n 0, 1) := by decide +kernel
theorem dX12_aTest_39 : decode cX12_aTest 39 = .ok (.getfield 20, 3) := by decide +kernel
theorem dX12_aTest_42 : decode cX12_aTest 42 = .ok (.iconst 3, 1) := by decide +kernel
theorem dX12_aTest_43 : decode cX12_aTest 43 = .ok (.iconst 1, 1) := by decide +kernel
theorem dX12_aTest_44 : decode cX12_aTest 44 = .ok (.iastore, 1) := by decide +kernel
theorem dX12_aTest_45 : decode cX12_aTest 45 = .ok (.aload_n 0, 1) := by decide +kernel
theorem dX12_aTest_46 : decode cX12_aTest 46 = .ok (.getfield 152, 3) := by decide +kernel
theorem dX12_aTest_49 : decode cX12_aTest 49 = .ok (.ifCond .ne 24, 3) := by decide +kernel
theorem dX12_aTest_52 : decode cX12_aTest 52 = .ok (.aload_n 0, 1) := by decide +kernel
theorem dX12_aTest_53 : decode cX12_aTest 53 = .ok (.getfield 127, 3) := by decide +kernel
theorem dX12_aTest_56 : decode cX12_aTest 56 = .ok (.iconst 3, 1) := by decide +kernel
theorem dX12_aTest_57 : decode cX12_aTest 57 = .ok (.if_icmp .ne 16, 3) := by decide +kernel
theorem dX12_aTest_60 : decode cX12_aTest 60 = .ok (.aload_n 0, 1) := by decide +kernel
theorem dX12_aTest_61 : decode cX12_aTest 61 = .ok (.getfield 137, 3) := by decide +kernel
theorem dX12_aTest_64 : decode cX12_aTest 64 = .ok (.iconst 1, 1) := by decide +kernel
theorem dX12_aTest_65 : decode cX12_aTest 65 = .ok (.bipush 9, 2) := by decide +kernel
theorem dX12_aTest_67 : decode cX12_aTest 67 = .ok (.invokestatic 59, 3) := by decide +kernel
theorem dX12_aTest_70 : decode cX12_aTest 70 = .ok (.ifCond .ne 8, 3) := by decide +kernel
theorem dX12_aTest_73 : decode cX12_aTest 73 = .ok (.aload_n 0, 1) := by decide +kernel
theorem dX12_aTest_74 : decode cX12_aTest 74 = .ok (.invokevirtual 159, 3) := by decide +kernel
theorem dX12_aTest_77 : decode cX12_aTest 77 = .ok (.return_, 1) := by decide +kernel
theorem dX12_aTest_78 : decode cX12_aTest 78 = .ok (.aload_n 0, 1) := by decide +kernel
theorem dX12_aTest_79 : decode cX12_aTest 79 = .ok (.invokevirtual 156, 3) := by decide +kernel
theorem dX12_aTest_82 : decode cX12_aTest 82 = .ok (.aload_n 0, 1) := by decide +kernel
theorem dX12_aTest_83 : decode cX12_aTest 83 = .ok (.getfield 20, 3) := by decide +kernel
theorem dX12_aTest_86 : decode cX12_aTest 86 = .ok (.iconst 1, 1) := by decide +kernel
theorem dX12_aTest_87 : decode cX12_aTest 87 = .ok (.iaload, 1) := by decide +kernel
theorem dX12_aTest_88 : decode cX12_aTest 88 = .ok (.iconst 2, 1) := by decide +kernel
theorem dX12_aTest_89 : decode cX12_aTest 89 = .ok (.if_icmp .gt 4, 3) := by decide +kernel
theorem dX12_aTest_92 : decode cX12_aTest 92 = .ok (.return_, 1) := by decide +kernel
theorem dX12_aTest_93 : decode cX12_aTest 93 = .ok (.aload_n 0, 1) := by decide +kernel
theorem dX12_aTest_94 : decode cX12_aTest 94 = .ok (.getfield 20, 3) := by decide +kernel
theorem dX12_aTest_97 : decode cX12_aTest 97 = .ok (.iconst 2, 1) := by decide +kernel
theorem dX12_aTest_98 : decode cX12_aTest 98 = .ok (.aload_n 0, 1) := by decide +kernel
theorem dX12_aTest_99 : decode cX12_aTest 99 = .ok (.getfield 146, 3) := by decide +kernel
theorem dX12_aTest_102 : decode cX12_aTest 102 = .ok (.iastore, 1) := by decide +kernel
theorem dX12_aTest_103 : decode cX12_aTest 103 = .ok (.aload_n 0, 1) := by decide +kernel
theorem dX12_aTest_104 : decode cX12_aTest 104 = .ok (.getfield 127, 3) := by decide +kernel
theorem dX12_aTest_107 : decode cX12_aTest 107 = .ok (.iconst 2, 1) := by decide +kernel
theorem dX12_aTest_108 : decode cX12_aTest 108 = .ok (.if_icmp .ne 21, 3) := by decide +kernel
theorem dX12_aTest_111 : decode cX12_aTest 111 = .ok (.aload_n 0, 1) := by decide +kernel
theorem dX12_aTest_112 : decode cX12_aTest 112 = .ok (.getfield 146, 3) := by decide +kernel
theorem dX12_aTest_115 : decode cX12_aTest 115 = .ok (.bipush 58, 2) := by decide +kernel
theorem dX12_aTest_117 : decode cX12_aTest 117 = .ok (.if_icmp .eq 12, 3) := by decide +kernel
theorem dX12_aTest_120 : decode cX12_aTest 120 = .ok (.aload_n 0, 1) := by decide +kernel
theorem dX12_aTest_121 : decode cX12_aTest 121 = .ok (.getfield 146, 3) := by decide +kernel
theorem dX12_aTest_124 : decode cX12_aTest 124 = .ok (.bipush 59, 2) := by decide +kernel
theorem dX12_aTest_126 : decode cX12_aTest 126 = .ok (.if_icmp .ne 8, 3) := by decide +kernel
theorem dX12_aTest_129 : decode cX12_aTest 129 = .ok (.aload_n 0, 1) := by decide +kernel
theorem dX12_aTest_130 : decode cX12_aTest 130 = .ok (.invokevirtual 159, 3) := by decide +kernel
theorem dX12_aTest_133 : decode cX12_aTest 133 = .ok (.return_, 1) := by decide +kernel
theorem dX12_aTest_134 : decode cX12_aTest 134 = .ok (.aload_n 0, 1) := by decide +kernel
theorem dX12_aTest_135 : decode cX12_aTest 135 = .ok (.invokevirtual 156, 3) := by decide +kernel
theorem dX12_aTest_138 : decode cX12_aTest 138 = .ok (.aload_n 0, 1) := by decide +kernel
theorem dX12_aTest_139 : decode cX12_aTest 139 = .ok (.getfield 20, 3) := by decide +kernel
theorem dX12_aTest_142 : decode cX12_aTest 142 = .ok (.iconst 3, 1) := by decide +kernel
theorem dX12_aTest_143 : decode cX12_aTest 143 = .ok (.aload_n 0, 1) := by decide +kernel
theorem dX12_aTest_144 : decode cX12_aTest 144 = .ok (.invokevirtual 165, 3) := by decide +kernel
theorem dX12_aTest_147 : decode cX12_aTest 147 = .ok (.iastore, 1) := by decide +kernel
theorem dX12_aTest_148 : decode cX12_aTest 148 = .ok (.return_, 1) := by decide +kernel
set_option maxRecDepth 100000 in
set_option maxHeartbeats 4000000 in
theorem k_aTest (l : Launch) {D : va_G} {cI cZ : ClassId} {a0 : Nat} (σ : Nat → Nat → Int)  (hp : pI σ) : moM l D cI cZ a0 yX12_aTest cX12_aTest 1 none 5 110 [.ref a0] σ none (teS σ) := by
  refine mo_start (by decide) rfl (Nat.le_of_ble_eq_true rfl) ?_
  intro p e s m args below meth c C K hr hlk
  have hσ := hp.1
  refine hv_aload_n C 0 0 dX12_aTest_0 rfl rfl ?_
  refine mo_geta C K 12 4 (by decide) rfl mo_hw fl_20 rfl dX12_aTest_1 ?_
  refine hv_iconst C dX12_aTest_4 ?_
  refine hv_aload_n C 0 0 dX12_aTest_5 rfl rfl ?_
  refine hv_bipush C dX12_aTest_6 (by decide) ?_
  refine mo_call [.int (iz 32)] [.int (iz 0), .ref (a0 + 4)] C K (k_takes l σ 32 (by assumption) (by omega)) ck_takes (by decide) rfl (Nat.le_of_ble_eq_true rfl) dX12_aTest_8 ?_
  refine hv_dif_eq C 18 dX12_aTest_11 (by decide)  (fun h11 => ?_) (fun h11 => ?_)
  · skip
    refine mo_st (σ2 := σ) (if_neg h11) ?_
    obtain ⟨τ1, eτ1⟩ : ∃ x9, x9 = σ := ⟨_, rfl⟩
    refine mo_st eτ1.symm ?_
    have pτ1 : pI τ1 := by rw [eτ1]; exact hp
    have rτ1 : rg τ1 := pτ1.1
    have lτ1 := pτ1.2.2.2
    have z1 : te1 σ = te0 τ1 0 := by rw [eτ1]; exact if_neg h11
    refine hv_iconst C dX12_aTest_18 ?_
    refine mo_iast C K 4 4 0 rfl (moW_set4 _ _ _ _ _ _) (by omega) (by omega) (by decide) dX12_aTest_19 ?_
    refine hv_aload_n C 0 0 dX12_aTest_20 rfl rfl ?_
    refine mo_geta C K 12 4 (by decide) rfl mo_hw fl_20 rfl dX12_aTest_21 ?_
    refine hv_iconst C dX12_aTest_24 ?_
    refine hv_aload_n C 0 0 dX12_aTest_25 rfl rfl ?_
    refine mo_geti C K (x := (u2 τ1 4 0 0) 0 8) 8 (by decide) rfl mo_hw fl_137 rfl dX12_aTest_26 ?_
    refine hv_as ((τ1 0 8)) rfl ?_
    refine mo_iast C K 4 4 1 rfl (moW_set4 _ _ _ _ _ _) (by omega) (by omega) (by decide) dX12_aTest_29 ?_
    refine hv_aload_n C 0 0 dX12_aTest_30 rfl rfl ?_
    refine mo_geta C K 12 4 (by decide) rfl mo_hw fl_20 rfl dX12_aTest_31 ?_
    refine hv_iconst C dX12_aTest_34 ?_
    refine hv_bipush C dX12_aTest_35 (by decide) ?_
    refine mo_iast C K 4 4 2 rfl (moW_set4 _ _ _ _ _ _) (by omega) (by omega) (by decide) dX12_aTest_37 ?_
    refine hv_aload_n C 0 0 dX12_aTest_38 rfl rfl ?_
    refine mo_geta C K 12 4 (by decide) rfl mo_hw fl_20 rfl dX12_aTest_39 ?_
    refine hv_iconst C dX12_aTest_42 ?_
    refine hv_iconst C dX12_aTest_43 ?_
    refine mo_iast C K 4 4 3 rfl (moW_set4 _ _ _ _ _ _) (by omega) (by omega) (by decide) dX12_aTest_44 ?_
    obtain ⟨τ2, eτ2⟩ : ∃ x9, x9 = (u2 (u2 (u2 (u2 τ1 4 0 0) 4 1 (τ1 0 8)) 4 2 61) 4 3 1) := ⟨_, rfl⟩
    refine mo_st eτ2.symm ?_
    have pτ2 : pI τ2 := by rw [eτ2]; exact (ps_te0 pτ1 (by decide)).1
    have rτ2 : rg τ2 := pτ2.1
    have lτ2 := pτ2.2.2.2
    have zS : teS σ = te2 τ2 := by rw [eτ2]; exact congrArg te2 z1
    refine hv_aload_n C 0 0 dX12_aTest_45 rfl rfl ?_
    refine mo_geti C K (x := τ2 0 9) 9 (by decide) rfl mo_hw fl_152 rfl dX12_aTest_46 ?_
    refine hv_nm (fun x1 ex1 => ?_)
    have rx1 : inI x1 := by rw [ex1]; exact rτ2 0 9
    refine hv_if_ne C 73 dX12_aTest_49 (by decide) (by omega) (fun h49 => ?_) (fun h49 => ?_)
    · skip
      refine hv_aload_n C 0 0 dX12_aTest_73 rfl rfl ?_
      refine mo_call [] [] C K (k_stops l τ2  (by repeat (first | assumption | refine rg_sA ?_ ?_ | refine in_ua ?_ (by omega) | exact fun _ => hσ _ _))) ck_stops (by decide) rfl (Nat.le_of_ble_eq_true rfl) dX12_aTest_74 ?_
      exact mo_vret (Qc := fun _ _ _ _ => True) C hr hlk (by first | exact zS5.symm | (rw [zS4]; exact (if_neg (by omega)).symm) | (rw [zS3]; exact (if_pos (by omega)).symm) | (rw [zS]; exact (if_neg (by omega)).symm)) dX12_aTest_77
    · skip
      refine hv_aload_n C 0 0 dX12_aTest_52 rfl rfl ?_
      refine mo_geti C K (x := τ2 0 5) 5 (by decide) rfl mo_hw fl_127 rfl dX12_aTest_53 ?_
      refine hv_nm (fun x2 ex2 => ?_)
      have rx2 : inI x2 := by rw [ex2]; exact rτ2 0 5
      refine hv_iconst C dX12_aTest_56 ?_
      refine hv_icmp_ne C 73 dX12_aTest_57 (by decide) (by omega) (by omega) (fun h57 => ?_) (fun h57 => ?_)
      · skip
        refine hv_aload_n C 0 0 dX12_aTest_73 rfl rfl ?_
        refine mo_call [] [] C K (k_stops l τ2  (by repeat (first | assumption | refine rg_sA ?_ ?_ | refine in_ua ?_ (by omega) | exact fun _ => hσ _ _))) ck_stops (by decide) rfl (Nat.le_of_ble_eq_true rfl) dX12_aTest_74 ?_
        exact mo_vret (Qc := fun _ _ _ _ => True) C hr hlk (by first | exact zS5.symm | (rw [zS4]; exact (if_neg (by omega)).symm) | (rw [zS3]; exact (if_pos (by omega)).symm) | (rw [zS]; exact (if_neg (by omega)).symm)) dX12_aTest_77
      · skip
        refine hv_aload_n C 0 0 dX12_aTest_60 rfl rfl ?_
        refine mo_geti C K (x := τ2 0 8) 8 (by decide) rfl mo_hw fl_137 rfl dX12_aTest_61 ?_
        refine hv_nm (fun x3 ex3 => ?_)
        have rx3 : inI x3 := by rw [ex3]; exact rτ2 0 8
        refine hv_iconst C dX12_aTest_64 ?_
        refine hv_bipush C dX12_aTest_65 (by decide) ?_
        refine mo_callS [.int (iz x3), .int (iz 1), .int (iz 9)] [] C K (k_isIn l τ2 x3 1 9 (by omega) (by omega) (by omega)) ck_isIn (by decide) rfl (Nat.le_of_ble_eq_true rfl) dX12_aTest_67 ?_
        refine hv_dif_ne C 78 dX12_aTest_70 (by decide)  (fun h70 => ?_) (fun h70 => ?_)
        · skip
          refine hv_aload_n C 0 0 dX12_aTest_78 rfl rfl ?_
          refine mo_call [] [] C K (k_advance l τ2  (by assumption)) ck_advance (by decide) rfl (Nat.le_of_ble_eq_true rfl) dX12_aTest_79 ?_
          obtain ⟨τ3, eτ3⟩ : ∃ x9, x9 = (adS τ2) := ⟨_, rfl⟩
          refine mo_st eτ3.symm ?_
          have pτ3 : pI τ3 := by rw [eτ3]; exact pI_ad pτ2
          have rτ3 : rg τ3 := pτ3.1
          have lτ3 := pτ3.2.2.2
          have zS3 : teS σ = te3 τ3 := by rw [zS, eτ3]; exact if_pos (by omega)
          refine hv_aload_n C 0 0 dX12_aTest_82 rfl rfl ?_
          refine mo_geta C K 12 4 (by decide) rfl mo_hw fl_20 rfl dX12_aTest_83 ?_
          refine hv_iconst C dX12_aTest_86 ?_
          refine mo_iald C K 4 4 1 rfl (by omega) (by omega) (by decide) dX12_aTest_87 ?_
          refine hv_nm (fun x4 ex4 => ?_)
          have rx4 : inI x4 := by rw [ex4]; exact rτ3 4 1
          refine hv_iconst C dX12_aTest_88 ?_
          refine hv_icmp_gt C 93 dX12_aTest_89 (by decide) (by omega) (by omega) (fun h89 => ?_) (fun h89 => ?_)
          · skip
            refine hv_aload_n C 0 0 dX12_aTest_93 rfl rfl ?_
            refine mo_geta C K 12 4 (by decide) rfl mo_hw fl_20 rfl dX12_aTest_94 ?_
            refine hv_iconst C dX12_aTest_97 ?_
            refine hv_aload_n C 0 0 dX12_aTest_98 rfl rfl ?_
            refine mo_geti C K (x := τ3 0 7) 7 (by decide) rfl mo_hw fl_146 rfl dX12_aTest_99 ?_
            refine hv_as ((τ3 0 7)) rfl ?_
            refine mo_iast C K 4 4 2 rfl (moW_set4 _ _ _ _ _ _) (by omega) (by omega) (by decide) dX12_aTest_102 ?_
            obtain ⟨τ4, eτ4⟩ : ∃ x9, x9 = (u2 τ3 4 2 (τ3 0 7)) := ⟨_, rfl⟩
            refine mo_st eτ4.symm ?_
            have pτ4 : pI τ4 := by rw [eτ4]; exact (ps_u pτ3 4 2 (pτ3.1 0 7) (by decide)).1
            have rτ4 : rg τ4 := pτ4.1
            have lτ4 := pτ4.2.2.2
            have zS4 : teS σ = te4 τ4 := by rw [zS3, eτ4]; exact if_neg (by omega)
            refine hv_aload_n C 0 0 dX12_aTest_103 rfl rfl ?_
            refine mo_geti C K (x := τ4 0 5) 5 (by decide) rfl mo_hw fl_127 rfl dX12_aTest_104 ?_
            refine hv_nm (fun x5 ex5 => ?_)
            have rx5 : inI x5 := by rw [ex5]; exact rτ4 0 5
            refine hv_iconst C dX12_aTest_107 ?_
            refine hv_icmp_ne C 129 dX12_aTest_108 (by decide) (by omega) (by omega) (fun h108 => ?_) (fun h108 => ?_)
            · skip
              refine hv_aload_n C 0 0 dX12_aTest_129 rfl rfl ?_
              refine mo_call [] [] C K (k_stops l τ4  (by repeat (first | assumption | refine rg_sA ?_ ?_ | refine in_ua ?_ (by omega) | exact fun _ => hσ _ _))) ck_stops (by decide) rfl (Nat.le_of_ble_eq_true rfl) dX12_aTest_130 ?_
              exact mo_vret (Qc := fun _ _ _ _ => True) C hr hlk (by first | exact zS5.symm | (rw [zS4]; exact (if_neg (by omega)).symm) | (rw [zS3]; exact (if_pos (by omega)).symm) | (rw [zS]; exact (if_neg (by omega)).symm)) dX12_aTest_133
            · skip
              refine hv_aload_n C 0 0 dX12_aTest_111 rfl rfl ?_
              refine mo_geti C K (x := τ4 0 7) 7 (by decide) rfl mo_hw fl_146 rfl dX12_aTest_112 ?_
              refine hv_nm (fun x6 ex6 => ?_)
              have rx6 : inI x6 := by rw [ex6]; exact rτ4 0 7
              refine hv_bipush C dX12_aTest_115 (by decide) ?_
              refine hv_icmp_eq C 129 dX12_aTest_117 (by decide) (by omega) (by omega) (fun h117 => ?_) (fun h117 => ?_)
              · skip
                refine hv_aload_n C 0 0 dX12_aTest_129 rfl rfl ?_
                refine mo_call [] [] C K (k_stops l τ4  (by repeat (first | assumption | refine rg_sA ?_ ?_ | refine in_ua ?_ (by omega) | exact fun _ => hσ _ _))) ck_stops (by decide) rfl (Nat.le_of_ble_eq_true rfl) dX12_aTest_130 ?_
                exact mo_vret (Qc := fun _ _ _ _ => True) C hr hlk (by first | exact zS5.symm | (rw [zS4]; exact (if_neg (by omega)).symm) | (rw [zS3]; exact (if_pos (by omega)).symm) | (rw [zS]; exact (if_neg (by omega)).symm)) dX12_aTest_133
              · skip
                refine hv_aload_n C 0 0 dX12_aTest_120 rfl rfl ?_
                refine mo_geti C K (x := τ4 0 7) 7 (by decide) rfl mo_hw fl_146 rfl dX12_aTest_121 ?_
                refine hv_nm (fun x7 ex7 => ?_)
                have rx7 : inI x7 := by rw [ex7]; exact rτ4 0 7
                refine hv_bipush C dX12_aTest_124 (by decide) ?_
                refine hv_icmp_ne C 134 dX12_aTest_126 (by decide) (by omega) (by omega) (fun h126 => ?_) (fun h126 => ?_)
                · skip
                  refine hv_aload_n C 0 0 dX12_aTest_134 rfl rfl ?_
                  refine mo_call [] [] C K (k_advance l τ4  (by assumption)) ck_advance (by decide) rfl (Nat.le_of_ble_eq_true rfl) dX12_aTest_135 ?_
                  obtain ⟨τ5, eτ5⟩ : ∃ x9, x9 = (adS τ4) := ⟨_, rfl⟩
                  refine mo_st eτ5.symm ?_
                  have pτ5 : pI τ5 := by rw [eτ5]; exact pI_ad pτ4
                  have rτ5 : rg τ5 := pτ5.1
                  have lτ5 := pτ5.2.2.2
                  have zS5 : teS σ = te5 τ5 := by rw [zS4, eτ5]; exact if_pos (by omega)
                  refine hv_aload_n C 0 0 dX12_aTest_138 rfl rfl ?_
                  refine mo_geta C K 12 4 (by decide) rfl mo_hw fl_20 rfl dX12_aTest_139 ?_
                  refine hv_iconst C dX12_aTest_142 ?_
                  refine hv_aload_n C 0 0 dX12_aTest_143 rfl rfl ?_
                  refine mo_call [] [.int (iz 3), .ref (a0 + 4)] C K (k_numbered l τ5  (by assumption)) ck_numbered (by decide) rfl (Nat.le_of_ble_eq_true rfl) dX12_aTest_144 ?_
                  refine mo_iast C K 4 4 3 rfl (moW_set4 _ _ _ _ _ _) (by omega) (by omega) (by decide) dX12_aTest_147 ?_
                  exact mo_vret (Qc := fun _ _ _ _ => True) C hr hlk (by first | exact zS5.symm | (rw [zS4]; exact (if_neg (by omega)).symm) | (rw [zS3]; exact (if_pos (by omega)).symm) | (rw [zS]; exact (if_neg (by omega)).symm)) dX12_aTest_148
                · skip
                  refine hv_aload_n C 0 0 dX12_aTest_129 rfl rfl ?_
                  refine mo_call [] [] C K (k_stops l τ4  (by repeat (first | assumption | refine rg_sA ?_ ?_ | refine in_ua ?_ (by omega) | exact fun _ => hσ _ _))) ck_stops (by decide) rfl (Nat.le_of_ble_eq_true rfl) dX12_aTest_130 ?_
                  exact mo_vret (Qc := fun _ _ _ _ => True) C hr hlk (by first | exact zS5.symm | (rw [zS4]; exact (if_neg (by omega)).symm) | (rw [zS3]; exact (if_pos (by omega)).symm) | (rw [zS]; exact (if_neg (by omega)).symm)) dX12_aTest_133
          · skip
            exact mo_vret (Qc := fun _ _ _ _ => True) C hr hlk (by first | exact zS5.symm | (rw [zS4]; exact (if_neg (by omega)).symm) | (rw [zS3]; exact (if_pos (by omega)).symm) | (rw [zS]; exact (if_neg (by omega)).symm)) dX12_aTest_92
        · skip
          refine hv_aload_n C 0 0 dX12_aTest_73 rfl rfl ?_
          refine mo_call [] [] C K (k_stops l τ2  (by repeat (first | assumption | refine rg_sA ?_ ?_ | refine in_ua ?_ (by omega) | exact fun _ => hσ _ _))) ck_stops (by decide) rfl (Nat.le_of_ble_eq_true rfl) dX12_aTest_74 ?_
          exact mo_vret (Qc := fun _ _ _ _ => True) C hr hlk (by first | exact zS5.symm | (rw [zS4]; exact (if_neg (by omega)).symm) | (rw [zS3]; exact (if_pos (by omega)).symm) | (rw [zS]; exact (if_neg (by omega)).symm)) dX12_aTest_77
  · skip
    refine mo_st (σ2 := adS σ) (if_pos h11) ?_
    obtain ⟨τ1, eτ1⟩ : ∃ x9, x9 = (adS σ) := ⟨_, rfl⟩
    refine mo_st eτ1.symm ?_
    have pτ1 : pI τ1 := by rw [eτ1]; exact pI_ad hp
    have rτ1 : rg τ1 := pτ1.1
    have lτ1 := pτ1.2.2.2
    have z1 : te1 σ = te0 τ1 1 := by rw [eτ1]; exact if_pos h11
    refine hv_iconst C dX12_aTest_14 ?_
    refine hv_goto C 19 dX12_aTest_15 (by decide) ?_
    refine mo_iast C K 4 4 0 rfl (moW_set4 _ _ _ _ _ _) (by omega) (by omega) (by decide) dX12_aTest_19 ?_
    refine hv_aload_n C 0 0 dX12_aTest_20 rfl rfl ?_
    refine mo_geta C K 12 4 (by decide) rfl mo_hw fl_20 rfl dX12_aTest_21 ?_
    refine hv_iconst C dX12_aTest_24 ?_
    refine hv_aload_n C 0 0 dX12_aTest_25 rfl rfl ?_
    refine mo_geti C K (x := (u2 τ1 4 0 1) 0 8) 8 (by decide) rfl mo_hw fl_137 rfl dX12_aTest_26 ?_
    refine hv_as ((τ1 0 8)) rfl ?_
    refine mo_iast C K 4 4 1 rfl (moW_set4 _ _ _ _ _ _) (by omega) (by omega) (by decide) dX12_aTest_29 ?_
    refine hv_aload_n C 0 0 dX12_aTest_30 rfl rfl ?_
    refine mo_geta C K 12 4 (by decide) rfl mo_hw fl_20 rfl dX12_aTest_31 ?_
    refine hv_iconst C dX12_aTest_34 ?_
    refine hv_bipush C dX12_aTest_35 (by decide) ?_
    refine mo_iast C K 4 4 2 rfl (moW_set4 _ _ _ _ _ _) (by omega) (by omega) (by decide) dX12_aTest_37 ?_
    refine hv_aload_n C 0 0 dX12_aTest_38 rfl rfl ?_
    refine mo_geta C K 12 4 (by decide) rfl mo_hw fl_20 rfl dX12_aTest_39 ?_
    refine hv_iconst C dX12_aTest_42 ?_
    refine hv_iconst C dX12_aTest_43 ?_
    refine mo_iast C K 4 4 3 rfl (moW_set4 _ _ _ _ _ _) (by omega) (by omega) (by decide) dX12_aTest_44 ?_
    obtain ⟨τ2, eτ2⟩ : ∃ x9, x9 = (u2 (u2 (u2 (u2 τ1 4 0 1) 4 1 (τ1 0 8)) 4 2 61) 4 3 1) := ⟨_, rfl⟩
    refine mo_st eτ2.symm ?_
    have pτ2 : pI τ2 := by rw [eτ2]; exact (ps_te0 pτ1 (by decide)).1
    have rτ2 : rg τ2 := pτ2.1
    have lτ2 := pτ2.2.2.2
    have zS : teS σ = te2 τ2 := by rw [eτ2]; exact congrArg te2 z1
    refine hv_aload_n C 0 0 dX12_aTest_45 rfl rfl ?_
    refine mo_geti C K (x := τ2 0 9) 9 (by decide) rfl mo_hw fl_152 rfl dX12_aTest_46 ?_
    refine hv_nm (fun x8 ex8 => ?_)
    have rx8 : inI x8 := by rw [ex8]; exact rτ2 0 9
    refine hv_if_ne C 73 dX12_aTest_49 (by decide) (by omega) (fun h49 => ?_) (fun h49 => ?_)
    · skip
      refine hv_aload_n C 0 0 dX12_aTest_73 rfl rfl ?_
      refine mo_call [] [] C K (k_stops l τ2  (by repeat (first | assumption | refine rg_sA ?_ ?_ | refine in_ua ?_ (by omega) | exact fun _ => hσ _ _))) ck_stops (by decide) rfl (Nat.le_of_ble_eq_true rfl) dX12_aTest_74 ?_
      exact mo_vret (Qc := fun _ _ _ _ => True) C hr hlk (by first | exact zS5.symm | (rw [zS4]; exact (if_neg (by omega)).symm) | (rw [zS3]; exact (if_pos (by omega)).symm) | (rw [zS]; exact (if_neg (by omega)).symm)) dX12_aTest_77
    · skip
      refine hv_aload_n C 0 0 dX12_aTest_52 rfl rfl ?_
      refine mo_geti C K (x := τ2 0 5) 5 (by decide) rfl mo_hw fl_127 rfl dX12_aTest_53 ?_
      refine hv_nm (fun x9 ex9 => ?_)
      have rx9 : inI x9 := by rw [ex9]; exact rτ2 0 5
      refine hv_iconst C dX12_aTest_56 ?_
      refine hv_icmp_ne C 73 dX12_aTest_57 (by decide) (by omega) (by omega) (fun h57 => ?_) (fun h57 => ?_)
      · skip
        refine hv_aload_n C 0 0 dX12_aTest_73 rfl rfl ?_
        refine mo_call [] [] C K (k_stops l τ2  (by repeat (first | assumption | refine rg_sA ?_ ?_ | refine in_ua ?_ (by omega) | exact fun _ => hσ _ _))) ck_stops (by decide) rfl (Nat.le_of_ble_eq_true rfl) dX12_aTest_74 ?_
        exact mo_vret (Qc := fun _ _ _ _ => True) C hr hlk (by first | exact zS5.symm | (rw [zS4]; exact (if_neg (by omega)).symm) | (rw [zS3]; exact (if_pos (by omega)).symm) | (rw [zS]; exact (if_neg (by omega)).symm)) dX12_aTest_77
      · skip
        refine hv_aload_n C 0 0 dX12_aTest_60 rfl rfl ?_
        refine mo_geti C K (x := τ2 0 8) 8 (by decide) rfl mo_hw fl_137 rfl dX12_aTest_61 ?_
        refine hv_nm (fun x10 ex10 => ?_)
        have rx10 : inI x10 := by rw [ex10]; exact rτ2 0 8
        refine hv_iconst C dX12_aTest_64 ?_
        refine hv_bipush C dX12_aTest_65 (by decide) ?_
        refine mo_callS [.int (iz x10), .int (iz 1), .int (iz 9)] [] C K (k_isIn l τ2 x10 1 9 (by omega) (by omega) (by omega)) ck_isIn (by decide) rfl (Nat.le_of_ble_eq_true rfl) dX12_aTest_67 ?_
        refine hv_dif_ne C 78 dX12_aTest_70 (by decide)  (fun h70 => ?_) (fun h70 => ?_)
        · skip
          refine hv_aload_n C 0 0 dX12_aTest_78 rfl rfl ?_
          refine mo_call [] [] C K (k_advance l τ2  (by assumption)) ck_advance (by decide) rfl (Nat.le_of_ble_eq_true rfl) dX12_aTest_79 ?_
          obtain ⟨τ3, eτ3⟩ : ∃ x9, x9 = (adS τ2) := ⟨_, rfl⟩
          refine mo_st eτ3.symm ?_
          have pτ3 : pI τ3 := by rw [eτ3]; exact pI_ad pτ2
          have rτ3 : rg τ3 := pτ3.1
          have lτ3 := pτ3.2.2.2
          have zS3 : teS σ = te3 τ3 := by rw [zS, eτ3]; exact if_pos (by omega)
          refine hv_aload_n C 0 0 dX12_aTest_82 rfl rfl ?_
          refine mo_geta C K 12 4 (by decide) rfl mo_hw fl_20 rfl dX12_aTest_83 ?_
          refine hv_iconst C dX12_aTest_86 ?_
          refine mo_iald C K 4 4 1 rfl (by omega) (by omega) (by decide) dX12_aTest_87 ?_
          refine hv_nm (fun x11 ex11 => ?_)
          have rx11 : inI x11 := by rw [ex11]; exact rτ3 4 1
          refine hv_iconst C dX12_aTest_88 ?_
          refine hv_icmp_gt C 93 dX12_aTest_89 (by decide) (by omega) (by omega) (fun h89 => ?_) (fun h89 => ?_)
          · skip
            refine hv_aload_n C 0 0 dX12_aTest_93 rfl rfl ?_
            refine mo_geta C K 12 4 (by decide) rfl mo_hw fl_20 rfl dX12_aTest_94 ?_
            refine hv_iconst C dX12_aTest_97 ?_
            refine hv_aload_n C 0 0 dX12_aTest_98 rfl rfl ?_
            refine mo_geti C K (x := τ3 0 7) 7 (by decide) rfl mo_hw fl_146 rfl dX12_aTest_99 ?_
            refine hv_as ((τ3 0 7)) rfl ?_
            refine mo_iast C K 4 4 2 rfl (moW_set4 _ _ _ _ _ _) (by omega) (by omega) (by decide) dX12_aTest_102 ?_
            obtain ⟨τ4, eτ4⟩ : ∃ x9, x9 = (u2 τ3 4 2 (τ3 0 7)) := ⟨_, rfl⟩
            refine mo_st eτ4.symm ?_
            have pτ4 : pI τ4 := by rw [eτ4]; exact (ps_u pτ3 4 2 (pτ3.1 0 7) (by decide)).1
            have rτ4 : rg τ4 := pτ4.1
            have lτ4 := pτ4.2.2.2
            have zS4 : teS σ = te4 τ4 := by rw [zS3, eτ4]; exact if_neg (by omega)
            refine hv_aload_n C 0 0 dX12_aTest_103 rfl rfl ?_
            refine mo_geti C K (x := τ4 0 5) 5 (by decide) rfl mo_hw fl_127 rfl dX12_aTest_104 ?_
            refine hv_nm (fun x12 ex12 => ?_)
            have rx12 : inI x12 := by rw [ex12]; exact rτ4 0 5
            refine hv_iconst C dX12_aTest_107 ?_
            refine hv_icmp_ne C 129 dX12_aTest_108 (by decide) (by omega) (by omega) (fun h108 => ?_) (fun h108 => ?_)
            · skip
              refine hv_aload_n C 0 0 dX12_aTest_129 rfl rfl ?_
              refine mo_call [] [] C K (k_stops l τ4  (by repeat (first | assumption | refine rg_sA ?_ ?_ | refine in_ua ?_ (by omega) | exact fun _ => hσ _ _))) ck_stops (by decide) rfl (Nat.le_of_ble_eq_true rfl) dX12_aTest_130 ?_
              exact mo_vret (Qc := fun _ _ _ _ => True) C hr hlk (by first | exact zS5.symm | (rw [zS4]; exact (if_neg (by omega)).symm) | (rw [zS3]; exact (if_pos (by omega)).symm) | (rw [zS]; exact (if_neg (by omega)).symm)) dX12_aTest_133
            · skip
              refine hv_aload_n C 0 0 dX12_aTest_111 rfl rfl ?_
              refine mo_geti C K (x := τ4 0 7) 7 (by decide) rfl mo_hw fl_146 rfl dX12_aTest_112 ?_
              refine hv_nm (fun x13 ex13 => ?_)
              have rx13 : inI x13 := by rw [ex13]; exact rτ4 0 7
              refine hv_bipush C dX12_aTest_115 (by decide) ?_
              refine hv_icmp_eq C 129 dX12_aTest_117 (by decide) (by omega) (by omega) (fun h117 => ?_) (fun h117 => ?_)
              · skip
                refine hv_aload_n C 0 0 dX12_aTest_129 rfl rfl ?_
                refine mo_call [] [] C K (k_stops l τ4  (by repeat (first | assumption | refine rg_sA ?_ ?_ | refine in_ua ?_ (by omega) | exact fun _ => hσ _ _))) ck_stops (by decide) rfl (Nat.le_of_ble_eq_true rfl) dX12_aTest_130 ?_
                exact mo_vret (Qc := fun _ _ _ _ => True) C hr hlk (by first | exact zS5.symm | (rw [zS4]; exact (if_neg (by omega)).symm) | (rw [zS3]; exact (if_pos (by omega)).symm) | (rw [zS]; exact (if_neg (by omega)).symm)) dX12_aTest_133
              · skip
                refine hv_aload_n C 0 0 dX12_aTest_120 rfl rfl ?_
                refine mo_geti C K (x := τ4 0 7) 7 (by decide) rfl mo_hw fl_146 rfl dX12_aTest_121 ?_
                refine hv_nm (fun x14 ex14 => ?_)
                have rx14 : inI x14 := by rw [ex14]; exact rτ4 0 7
                refine hv_bipush C dX12_aTest_124 (by decide) ?_
                refine hv_icmp_ne C 134 dX12_aTest_126 (by decide) (by omega) (by omega) (fun h126 => ?_) (fun h126 => ?_)
                · skip
                  refine hv_aload_n C 0 0 dX12_aTest_134 rfl rfl ?_
                  refine mo_call [] [] C K (k_advance l τ4  (by assumption)) ck_advance (by decide) rfl (Nat.le_of_ble_eq_true rfl) dX12_aTest_135 ?_
                  obtain ⟨τ5, eτ5⟩ : ∃ x9, x9 = (adS τ4) := ⟨_, rfl⟩
                  refine mo_st eτ5.symm ?_
                  have pτ5 : pI τ5 := by rw [eτ5]; exact pI_ad pτ4
                  have rτ5 : rg τ5 := pτ5.1
                  have lτ5 := pτ5.2.2.2
                  have zS5 : teS σ = te5 τ5 := by rw [zS4, eτ5]; exact if_pos (by omega)
                  refine hv_aload_n C 0 0 dX12_aTest_138 rfl rfl ?_
                  refine mo_geta C K 12 4 (by decide) rfl mo_hw fl_20 rfl dX12_aTest_139 ?_
                  refine hv_iconst C dX12_aTest_142 ?_
                  refine hv_aload_n C 0 0 dX12_aTest_143 rfl rfl ?_
                  refine mo_call [] [.int (iz 3), .ref (a0 + 4)] C K (k_numbered l τ5  (by assumption)) ck_numbered (by decide) rfl (Nat.le_of_ble_eq_true rfl) dX12_aTest_144 ?_
                  refine mo_iast C K 4 4 3 rfl (moW_set4 _ _ _ _ _ _) (by omega) (by omega) (by decide) dX12_aTest_147 ?_
                  exact mo_vret (Qc := fun _ _ _ _ => True) C hr hlk (by first | exact zS5.symm | (rw [zS4]; exact (if_neg (by omega)).symm) | (rw [zS3]; exact (if_pos (by omega)).symm) | (rw [zS]; exact (if_neg (by omega)).symm)) dX12_aTest_148
                · skip
                  refine hv_aload_n C 0 0 dX12_aTest_129 rfl rfl ?_
                  refine mo_call [] [] C K (k_stops l τ4  (by repeat (first | assumption | refine rg_sA ?_ ?_ | refine in_ua ?_ (by omega) | exact fun _ => hσ _ _))) ck_stops (by decide) rfl (Nat.le_of_ble_eq_true rfl) dX12_aTest_130 ?_
                  exact mo_vret (Qc := fun _ _ _ _ => True) C hr hlk (by first | exact zS5.symm | (rw [zS4]; exact (if_neg (by omega)).symm) | (rw [zS3]; exact (if_pos (by omega)).symm) | (rw [zS]; exact (if_neg (by omega)).symm)) dX12_aTest_133
          · skip
            exact mo_vret (Qc := fun _ _ _ _ => True) C hr hlk (by first | exact zS5.symm | (rw [zS4]; exact (if_neg (by omega)).symm) | (rw [zS3]; exact (if_pos (by omega)).symm) | (rw [zS]; exact (if_neg (by omega)).symm)) dX12_aTest_92
        · skip
          refine hv_aload_n C 0 0 dX12_aTest_73 rfl rfl ?_
          refine mo_call [] [] C K (k_stops l τ2  (by repeat (first | assumption | refine rg_sA ?_ ?_ | refine in_ua ?_ (by omega) | exact fun _ => hσ _ _))) ck_stops (by decide) rfl (Nat.le_of_ble_eq_true rfl) dX12_aTest_74 ?_
          exact mo_vret (Qc := fun _ _ _ _ => True) C hr hlk (by first | exact zS5.symm | (rw [zS4]; exact (if_neg (by omega)).symm) | (rw [zS3]; exact (if_pos (by omega)).symm) | (rw [zS]; exact (if_neg (by omega)).symm)) dX12_aTest_77
