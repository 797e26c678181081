/-! tokens: the reference's step against the class's tokens -/
def ctk (F : Nat → Int) : Int := if F 5 = 0 then 0 else if F 5 = 4 then 1 else if F 5 = 2 then F 7 - 56 else if F 5 = 3 then cwm (F 8) else 100 + F 6
def kd8 (F : Nat → Int) : Prop := F 5 = 0 ∨ (F 5 = 1 ∧ 0 ≤ F 6 ∧ F 6 ≤ 9999) ∨ (F 5 = 2 ∧ 58 ≤ F 7 ∧ F 7 ≤ 62) ∨ (F 5 = 3 ∧ ((1 ≤ F 8 ∧ F 8 ≤ 9) ∨ (20 ≤ F 8 ∧ F 8 ≤ 22) ∨ (30 ≤ F 8 ∧ F 8 ≤ 32))) ∨ F 5 = 4
theorem ctk_v {F : Nat → Int} (h : kd8 F) : (F 5 = 0 ∧ ctk F = 0) ∨ (F 5 = 1 ∧ (0 ≤ F 6 ∧ F 6 ≤ 9999) ∧ ctk F = 100 + F 6) ∨ (F 5 = 2 ∧ (58 ≤ F 7 ∧ F 7 ≤ 62) ∧ ctk F = F 7 - 56) ∨ (F 5 = 3 ∧ ((1 ≤ F 8 ∧ F 8 ≤ 9 ∧ ctk F = F 8 + 13) ∨ (20 ≤ F 8 ∧ F 8 ≤ 22 ∧ ctk F = F 8 - 9) ∨ (30 ≤ F 8 ∧ F 8 ≤ 32 ∧ ctk F = F 8 - 22))) ∨ (F 5 = 4 ∧ ctk F = 1) := by
  unfold ctk
  rcases h with h | ⟨h, g⟩ | ⟨h, g⟩ | ⟨h, g⟩ | h
  · exact Or.inl ⟨h, by rw [if_pos h]⟩
  · exact Or.inr (Or.inl ⟨h, g, by rw [if_neg (by omega), if_neg (by omega), if_neg (by omega), if_neg (by omega)]⟩)
  · exact Or.inr (Or.inr (Or.inl ⟨h, g, by rw [if_neg (by omega), if_neg (by omega), if_pos h]⟩))
  · refine Or.inr (Or.inr (Or.inr (Or.inl ⟨h, ?_⟩)))
    rw [if_neg (by omega), if_neg (by omega), if_neg (by omega), if_pos h]
    unfold cwm
    rcases g with g | g | g
    · exact Or.inl ⟨g.1, g.2, by rw [if_neg (by omega), if_neg (by omega), if_neg (by omega), if_neg (by omega), if_pos g]⟩
    · exact Or.inr (Or.inl ⟨g.1, g.2, by rw [if_neg (by omega), if_neg (by omega), if_neg (by omega), if_pos g]⟩)
    · refine Or.inr (Or.inr ⟨g.1, g.2, ?_⟩)
      rcases (by omega : F 8 = 30 ∨ F 8 = 31 ∨ F 8 = 32) with e | e | e
      · rw [if_pos e]; omega
      · rw [if_neg (by omega), if_pos e]; omega
      · rw [if_neg (by omega), if_neg (by omega), if_pos e]; omega
  · exact Or.inr (Or.inr (Or.inr (Or.inr ⟨h, by rw [if_neg (by omega), if_pos h]⟩)))
theorem sk9_nb (A : Nat → Int) (n q : Int) : ¬ (by9 A n (sk9 A n q) = 10 ∨ by9 A n (sk9 A n q) = 32) := by
  have g : ∀ (f : Nat) (q : Int), (n - q).toNat ≤ f → ¬ (by9 A n (sk9f A n f q) = 10 ∨ by9 A n (sk9f A n f q) = 32) := by
    intro f
    induction f with
    | zero =>
      intro q hf z
      have e : sk9f A n 0 q = q := rfl
      rw [e] at z
      have := by9_lt (A := A) (n := n) (q := q) (by omega)
      omega
    | succ f ih =>
      intro q hf
      unfold sk9f
      split
      · exact ih (q + 1) (by omega)
      · next h => exact h
  exact g _ q (Nat.le_refl _)
theorem wrd_r (v : Int) : (1 ≤ wrd v ∧ wrd v ≤ 9) ∨ (20 ≤ wrd v ∧ wrd v ≤ 22) ∨ (30 ≤ wrd v ∧ wrd v ≤ 32) ∨ wrd v = 99 := by
  unfold wrd
  repeat' split
  all_goals omega
/-- one step of the reference, from position q on -/
theorem adv_tok {A F : Nat → Int} {n : Int} (h2 : F 2 = n) (h3 : 0 ≤ F 3 ∧ F 3 ≤ n) (hb : ∀ q, 0 ≤ q → q < n → 0 ≤ by9 A n q) : adv9 A F 4 = sk9 A n (F 3) ∧ adv9 A F 2 = n ∧ kd8 (adv9 A F) ∧ (sk9 A n (F 3) < n → adv9 A F 3 = te9 A n (sk9 A n (F 3)) ∧ ctk (adv9 A F) = tv9 A n (sk9 A n (F 3)) ∧ adv9 A F 5 ≠ 0) ∧ (¬ sk9 A n (F 3) < n → adv9 A F 5 = 0) := by
  have sr := sk9_r (A := A) (n := n) (q := F 3) h3.2
  obtain ⟨p, hp⟩ : ∃ p, p = sk9 A n (F 3) := ⟨_, rfl⟩
  rw [← hp] at sr ⊢
  have hp2 : sk9 A (F 2) (F 3) = p := by rw [h2]; exact hp.symm
  by_cases lt : p < n
  · have c0 := hb p (by omega) lt
    obtain ⟨c, hc⟩ : ∃ c, c = by9 A n p := ⟨_, rfl⟩
    have hc2 : by9 A (F 2) p = c := by rw [h2]; exact hc.symm
    rw [← hc] at c0
    by_cases cl : 97 ≤ c ∧ c ≤ 122
    · obtain ⟨q, v, hr⟩ : ∃ q v, lt9 A n p p 0 = (q, v) := ⟨(lt9 A n p p 0).1, (lt9 A n p p 0).2, rfl⟩
      have e := adv_1 (A := A) (F := F) (q := q) (v := v) hp2 hc2 cl (by rw [h2]; exact hr) rfl rfl
      have le1 : q = te9 A n p := by
        have z := lt9_le A n p p 0
        rw [hr] at z
        rw [show q = le9 A n p from z]
        unfold te9
        rw [← hc, if_pos cl, le9_eq, ← hc, if_pos cl]
      have tv : tv9 A n p = cwm (wo9 q p v) := by unfold tv9; rw [← hc, if_pos cl, hr]
      obtain ⟨w, hw⟩ : ∃ w, w = wo9 q p v := ⟨_, rfl⟩
      have wr : (1 ≤ w ∧ w ≤ 9) ∨ (20 ≤ w ∧ w ≤ 22) ∨ (30 ≤ w ∧ w ≤ 32) ∨ w = 99 := by
        rw [hw]; unfold wo9
        split
        · omega
        · exact wrd_r _
      rw [← hw] at e tv
      rw [e, tv]
      have f3 : ua (ua (ua (ua F 3 q) 4 p) 5 (if w = 99 then 4 else 3)) 8 w 3 = q := rfl
      have f5 : ua (ua (ua (ua F 3 q) 4 p) 5 (if w = 99 then 4 else 3)) 8 w 5 = (if w = 99 then 4 else 3) := rfl
      have f8 : ua (ua (ua (ua F 3 q) 4 p) 5 (if w = 99 then 4 else 3)) 8 w 8 = w := rfl
      refine ⟨rfl, h2, ?_, fun _ => ⟨f3.trans le1, ?_, ?_⟩, fun z => absurd lt z⟩
      · unfold kd8
        rw [f5, f8]
        split <;> omega
      · unfold ctk
        rw [f5, f8]
        by_cases c9 : w = 99
        · rw [if_pos c9, if_neg (by decide), if_pos rfl, c9]; decide
        · rw [if_neg c9, if_neg (by decide), if_neg (by decide), if_neg (by decide), if_pos rfl]
      · rw [f5]; split <;> decide
    · by_cases cd : 48 ≤ c ∧ c ≤ 57
      · obtain ⟨x, v, hr⟩ : ∃ x v, dg9 A n p p 0 = (x, v) := ⟨(dg9 A n p p 0).1, (dg9 A n p p 0).2, rfl⟩
        have e := adv_2 (A := A) (F := F) (q := x) (v := v) hp2 hc2 cd (by rw [h2]; exact hr) rfl
        have de1 : x = te9 A n p := by
          have z := dg9_de A n p p 0
          rw [hr] at z
          rw [show x = de9 A n p from z]
          unfold te9
          rw [← hc, if_neg cl, if_pos cd, de9_eq, ← hc, if_pos cd]
        have tv : tv9 A n p = if 4 < x - p then 1 else 100 + v := by unfold tv9; rw [← hc, if_neg cl, if_pos cd, hr]
        have vr := dg9_r (A := A) (n := n) (p := p) (q := p) (v := 0) (by omega) (Or.inl ⟨by omega, rfl⟩)
        rw [hr] at vr
        dsimp only at vr
        rw [e, tv]
        have f5 : ua (ua (ua (ua F 3 x) 4 p) 5 (if 4 < x - p then 4 else 1)) 6 v 5 = (if 4 < x - p then 4 else 1) := rfl
        have f6 : ua (ua (ua (ua F 3 x) 4 p) 5 (if 4 < x - p then 4 else 1)) 6 v 6 = v := rfl
        refine ⟨rfl, h2, ?_, fun _ => ⟨(rfl : _ = x).trans de1, ?_, ?_⟩, fun z => absurd lt z⟩
        · unfold kd8
          rw [f5, f6]
          split <;> omega
        · unfold ctk
          rw [f5, f6]
          by_cases c9 : 4 < x - p
          · rw [if_pos c9, if_pos c9, if_neg (by decide), if_pos rfl]
          · rw [if_neg c9, if_neg c9, if_neg (by decide), if_neg (by decide), if_neg (by decide), if_neg (by decide)]
        · rw [f5]; split <;> decide
      · have e := adv_3 (A := A) (F := F) hp2 hc2 (by omega) cl cd rfl
        have te : te9 A n p = p + 1 := by unfold te9; rw [← hc, if_neg cl, if_neg cd]
        rw [e, te]
        have f5 : ua (ua (ua (ua F 3 (p + 1)) 4 p) 5 (if c = 58 ∨ c = 59 ∨ c = 60 ∨ c = 62 ∨ c = 61 then 2 else 4)) 7 c 5 = (if c = 58 ∨ c = 59 ∨ c = 60 ∨ c = 62 ∨ c = 61 then 2 else 4) := rfl
        have f7 : ua (ua (ua (ua F 3 (p + 1)) 4 p) 5 (if c = 58 ∨ c = 59 ∨ c = 60 ∨ c = 62 ∨ c = 61 then 2 else 4)) 7 c 7 = c := rfl
        refine ⟨rfl, h2, ?_, fun _ => ⟨rfl, ?_, ?_⟩, fun z => absurd lt z⟩
        · unfold kd8
          rw [f5, f7]
          split <;> omega
        · unfold ctk tv9
          rw [f5, f7, ← hc, if_neg cl, if_neg cd]
          by_cases c9 : c = 58 ∨ c = 59 ∨ c = 60 ∨ c = 62 ∨ c = 61
          · rw [if_pos c9, if_neg (by decide), if_neg (by decide), if_pos rfl]
            repeat' split
            all_goals omega
          · rw [if_neg c9, if_neg (by decide), if_pos rfl, if_neg (by omega), if_neg (by omega), if_neg (by omega), if_neg (by omega), if_neg (by omega)]
        · rw [f5]; split <;> decide
  · have hc2 : by9 A (F 2) p = -1 := by rw [h2]; exact by9_n lt
    have e := adv_0 (A := A) (F := F) hp2 hc2 (by decide)
    rw [e]
    exact ⟨rfl, h2, Or.inl rfl, fun z => absurd z lt, fun _ => rfl⟩
/-- only the tape of the state matters to a step -/
theorem by_c {A B : Nat → Int} (h : ∀ i, 1760 ≤ i → B i = A i) (n q : Int) : by9 B n q = by9 A n q := by
  unfold by9
  rw [h _ (by omega)]
theorem sk_c {A B : Nat → Int} (h : ∀ i, 1760 ≤ i → B i = A i) (n : Int) : ∀ (f : Nat) (q : Int), sk9f B n f q = sk9f A n f q
  | 0, q => rfl
  | f + 1, q => by
    unfold sk9f
    rw [by_c h, sk_c h n f]
theorem lt_c {A B : Nat → Int} (h : ∀ i, 1760 ≤ i → B i = A i) (n p : Int) : ∀ (f : Nat) (q v : Int), lt9f B n p f q v = lt9f A n p f q v
  | 0, q, v => rfl
  | f + 1, q, v => by
    unfold lt9f
    rw [by_c h, lt_c h n p f]
theorem dg_c {A B : Nat → Int} (h : ∀ i, 1760 ≤ i → B i = A i) (n p : Int) : ∀ (f : Nat) (q v : Int), dg9f B n p f q v = dg9f A n p f q v
  | 0, q, v => rfl
  | f + 1, q, v => by
    unfold dg9f
    rw [by_c h, dg_c h n p f]
theorem adv_c {A B : Nat → Int} (h : ∀ i, 1760 ≤ i → B i = A i) (F : Nat → Int) : adv9 B F = adv9 A F := by
  have s : ∀ n q, sk9 B n q = sk9 A n q := fun n q => sk_c h n _ q
  have l : ∀ n p q v, lt9 B n p q v = lt9 A n p q v := fun n p q v => lt_c h n p _ q v
  have d : ∀ n p q v, dg9 B n p q v = dg9 A n p q v := fun n p q v => dg_c h n p _ q v
  unfold adv9
  simp only [s, l, d, by_c h]
