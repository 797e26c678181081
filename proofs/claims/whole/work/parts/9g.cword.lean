theorem ifc9 {c d : Prop} [Decidable c] [Decidable d] {a b x y : Int} (h : c ↔ d) (h1 : a = b) (h2 : x = y) : (if c then a else x) = (if d then b else y) := by
  by_cases q : c
  · rw [if_pos q, if_pos (h.mp q)]; exact h1
  · rw [if_neg q, if_neg (fun z => q (h.mpr z))]; exact h2

/-! words: comparing letter by letter, and by number -/
def wr9 (t : Nat → Int) (fm to9 : Nat) : List Int → Int → Nat → Bool → Int
  | [], _, _, _ => 1
  | c :: cs, w, x, s => if c = 32 then (if s = true ∧ x = to9 then w else wr9 t fm to9 cs (w + 1) fm true) else wr9 t fm to9 cs w (x + 1) (s && decide (x < to9 ∧ t x = c))
theorem wr_l {t : Nat → Int} {fm to9 : Nat} {w : Int} {x : Nat} {s : Bool} (k : Nat) (hk : k < 78) (hc : ¬ wch.getD k 0 = 32) : wr9 t fm to9 (wch.drop k) w x s = wr9 t fm to9 (wch.drop (k + 1)) w (x + 1) (s && decide (x < to9 ∧ t x = wch.getD k 0)) := by
  rw [wch_d k hk]
  conv => lhs; unfold wr9
  rw [if_neg hc]
theorem wr_b {t : Nat → Int} {fm to9 : Nat} {w : Int} {x : Nat} {s : Bool} (k : Nat) (hk : k < 78) (hc : wch.getD k 0 = 32) (hs : ¬ (s = true ∧ x = to9)) : wr9 t fm to9 (wch.drop k) w x s = wr9 t fm to9 (wch.drop (k + 1)) (w + 1) fm true := by
  rw [wch_d k hk]
  conv => lhs; unfold wr9
  rw [if_pos hc, if_neg hs]
theorem wr_r {t : Nat → Int} {fm to9 : Nat} {w : Int} {x : Nat} {s : Bool} (k : Nat) (hk : k < 78) (hc : wch.getD k 0 = 32) (h1 : s = true) (h2 : x = to9) : wr9 t fm to9 (wch.drop k) w x s = w := by
  rw [wch_d k hk]
  conv => lhs; unfold wr9
  rw [if_pos hc, if_pos ⟨h1, h2⟩]
/-- all letters of a word stand there -/
def mtc (t : Nat → Int) (to9 : Nat) : List Int → Nat → Bool
  | [], _ => true
  | c :: cs, x => decide (x < to9 ∧ t x = c) && mtc t to9 cs (x + 1)
theorem wr_w {t : Nat → Int} {fm to9 : Nat} {w : Int} {rest : List Int} : ∀ (ls : List Int) (x : Nat) (s : Bool), (∀ c ∈ ls, c ≠ 32) → wr9 t fm to9 (ls ++ 32 :: rest) w x s = if (s && mtc t to9 ls x) = true ∧ x + ls.length = to9 then w else wr9 t fm to9 rest (w + 1) fm true
  | [], x, s, _ => by
    show wr9 t fm to9 (32 :: rest) w x s = _
    conv => lhs; unfold wr9
    rw [if_pos rfl]
    unfold mtc
    rw [Bool.and_true]
    rfl
  | c :: cs, x, s, h => by
    show wr9 t fm to9 (c :: (cs ++ 32 :: rest)) w x s = _
    conv => lhs; unfold wr9
    rw [if_neg (h c (List.mem_cons_self ..)), wr_w cs (x + 1) _ (fun d hd => h d (List.mem_cons_of_mem _ hd))]
    conv => rhs; unfold mtc
    rw [Bool.and_assoc, show x + (c :: cs).length = x + 1 + cs.length by rw [List.length_cons]; omega]
/-- the class's number of a word of the reference -/
def cwm (w : Int) : Int := if w = 30 then 8 else if w = 31 then 9 else if w = 32 then 10 else if 20 ≤ w ∧ w ≤ 22 then w - 9 else if 1 ≤ w ∧ w ≤ 9 then w + 13 else 1
def wl9 (v : Int) : Int := if v = 294 then 8 else if v = 1476 then 9 else if v = 14836 then 10 else if v = 3544114 then 11 else if v = 609441381 then 12 else if v = 16441 then 13 else if v = 638340 then 14 else if v = 659993778 then 15 else if v = 635380 then 16 else if v = 17292466 then 17 else if v = 486155365 then 18 else if v = 867781 then 19 else if v = 638548 then 20 else if v = 409031 then 21 else if v = 758955 then 22 else 1
theorem wl_wrd (v : Int) : wl9 v = cwm (wrd v) := by
  by_cases h0 : v = 294
  · subst h0; decide
  by_cases h1 : v = 1476
  · subst h1; decide
  by_cases h2 : v = 14836
  · subst h2; decide
  by_cases h3 : v = 3544114
  · subst h3; decide
  by_cases h4 : v = 609441381
  · subst h4; decide
  by_cases h5 : v = 16441
  · subst h5; decide
  by_cases h6 : v = 638340
  · subst h6; decide
  by_cases h7 : v = 659993778
  · subst h7; decide
  by_cases h8 : v = 635380
  · subst h8; decide
  by_cases h9 : v = 17292466
  · subst h9; decide
  by_cases h10 : v = 486155365
  · subst h10; decide
  by_cases h11 : v = 867781
  · subst h11; decide
  by_cases h12 : v = 638548
  · subst h12; decide
  by_cases h13 : v = 409031
  · subst h13; decide
  by_cases h14 : v = 758955
  · subst h14; decide
  have e1 : wl9 v = 1 := by unfold wl9; rw [if_neg h0, if_neg h1, if_neg h2, if_neg h3, if_neg h4, if_neg h5, if_neg h6, if_neg h7, if_neg h8, if_neg h9, if_neg h10, if_neg h11, if_neg h12, if_neg h13, if_neg h14]
  have e2 : wrd v = 99 := by unfold wrd; rw [if_neg h6, if_neg h7, if_neg h8, if_neg h9, if_neg h10, if_neg h11, if_neg h12, if_neg h13, if_neg h14, if_neg h3, if_neg h4, if_neg h5, if_neg h0, if_neg h1, if_neg h2]
  rw [e1, e2]; decide
theorem wr_all (t : Nat → Int) (fm to9 : Nat) : wr9 t fm to9 wch 8 fm true = if (true && mtc t to9 [105, 102] fm) = true ∧ fm + 2 = to9 then 8 else if (true && mtc t to9 [97, 110, 100] fm) = true ∧ fm + 3 = to9 then 9 else if (true && mtc t to9 [110, 111, 116] fm) = true ∧ fm + 3 = to9 then 10 else if (true && mtc t to9 [99, 108, 101, 97, 114] fm) = true ∧ fm + 5 = to9 then 11 else if (true && mtc t to9 [114, 101, 102, 117, 115, 101] fm) = true ∧ fm + 6 = to9 then 12 else if (true && mtc t to9 [112, 97, 121] fm) = true ∧ fm + 3 = to9 then 13 else if (true && mtc t to9 [115, 111, 108, 100] fm) = true ∧ fm + 4 = to9 then 14 else if (true && mtc t to9 [115, 117, 109, 109, 101, 114] fm) = true ∧ fm + 6 = to9 then 15 else if (true && mtc t to9 [115, 108, 111, 116] fm) = true ∧ fm + 4 = to9 then 16 else if (true && mtc t to9 [112, 111, 119, 101, 114] fm) = true ∧ fm + 5 = to9 then 17 else if (true && mtc t to9 [110, 111, 116, 105, 99, 101] fm) = true ∧ fm + 6 = to9 then 18 else if (true && mtc t to9 [122, 111, 110, 101] fm) = true ∧ fm + 4 = to9 then 19 else if (true && mtc t to9 [115, 111, 114, 116] fm) = true ∧ fm + 4 = to9 then 20 else if (true && mtc t to9 [108, 111, 110, 103] fm) = true ∧ fm + 4 = to9 then 21 else if (true && mtc t to9 [119, 101, 101, 107] fm) = true ∧ fm + 4 = to9 then 22 else 1 := by
  have e : wch = [105, 102] ++ 32 :: ([97, 110, 100] ++ 32 :: ([110, 111, 116] ++ 32 :: ([99, 108, 101, 97, 114] ++ 32 :: ([114, 101, 102, 117, 115, 101] ++ 32 :: ([112, 97, 121] ++ 32 :: ([115, 111, 108, 100] ++ 32 :: ([115, 117, 109, 109, 101, 114] ++ 32 :: ([115, 108, 111, 116] ++ 32 :: ([112, 111, 119, 101, 114] ++ 32 :: ([110, 111, 116, 105, 99, 101] ++ 32 :: ([122, 111, 110, 101] ++ 32 :: ([115, 111, 114, 116] ++ 32 :: ([108, 111, 110, 103] ++ 32 :: ([119, 101, 101, 107] ++ 32 :: ([]))))))))))))))) := by decide +kernel
  rw [e]
  rw [wr_w [105, 102] fm true (by decide)]
  congr 1
  rw [wr_w [97, 110, 100] fm true (by decide)]
  congr 1
  rw [wr_w [110, 111, 116] fm true (by decide)]
  congr 1
  rw [wr_w [99, 108, 101, 97, 114] fm true (by decide)]
  congr 1
  rw [wr_w [114, 101, 102, 117, 115, 101] fm true (by decide)]
  congr 1
  rw [wr_w [112, 97, 121] fm true (by decide)]
  congr 1
  rw [wr_w [115, 111, 108, 100] fm true (by decide)]
  congr 1
  rw [wr_w [115, 117, 109, 109, 101, 114] fm true (by decide)]
  congr 1
  rw [wr_w [115, 108, 111, 116] fm true (by decide)]
  congr 1
  rw [wr_w [112, 111, 119, 101, 114] fm true (by decide)]
  congr 1
  rw [wr_w [110, 111, 116, 105, 99, 101] fm true (by decide)]
  congr 1
  rw [wr_w [122, 111, 110, 101] fm true (by decide)]
  congr 1
  rw [wr_w [115, 111, 114, 116] fm true (by decide)]
  congr 1
  rw [wr_w [108, 111, 110, 103] fm true (by decide)]
  congr 1
  rw [wr_w [119, 101, 101, 107] fm true (by decide)]
  congr 1
theorem le9f_all (A : Nat → Int) (n : Int) : ∀ (f : Nat) (q i : Int), q ≤ i → i < le9f A n f q → 97 ≤ by9 A n i ∧ by9 A n i ≤ 122
  | 0, q, i, h1, h2 => absurd h2 (by show ¬ i < q; omega)
  | f + 1, q, i, h1, h2 => by
    unfold le9f at h2
    split at h2
    · next h =>
      by_cases c : i = q
      · rw [c]; exact h
      · exact le9f_all A n f (q + 1) i (by omega) h2
    · omega
theorem le9_all {A : Nat → Int} {n q i : Int} (h1 : q ≤ i) (h2 : i < le9 A n q) : 97 ≤ by9 A n i ∧ by9 A n i ≤ 122 := le9f_all A n _ q i h1 h2
theorem le9_id (A : Nat → Int) (n q : Int) : ¬ (97 ≤ by9 A n (le9 A n q) ∧ by9 A n (le9 A n q) ≤ 122) := by
  have g : ∀ (f : Nat) (q : Int), (n - q).toNat ≤ f → ¬ (97 ≤ by9 A n (le9f A n f q) ∧ by9 A n (le9f A n f q) ≤ 122) := by
    intro f
    induction f with
    | zero =>
      intro q hf z
      have := by9_lt (A := A) (n := n) (q := le9f A n 0 q) (by omega)
      have e : le9f A n 0 q = q := rfl
      omega
    | succ f ih =>
      intro q hf
      unfold le9f
      split
      · exact ih (q + 1) (by omega)
      · next h => exact h
  exact g _ q (Nat.le_refl _)
theorem lt_1 {A : Nat → Int} {n p : Int} (h : le9 A n p = p + 1) : lt9 A n p p 0 = (p + 1, (32 * (0 : Int) + by9 A n (p + 0) - 96)) := by
  have hl : ∀ i, p ≤ i → i < p + 1 → 97 ≤ by9 A n i ∧ by9 A n i ≤ 122 := fun i h1 h2 => le9_all h1 (by omega)
  have hz := le9_id A n p
  rw [h] at hz
  have e0 : lt9 A n p p 0 = lt9 A n p (p + 0) 0 := by rw [Int.add_zero]
  rw [e0]
  rw [lt9_eq, if_pos (hl (p + 0) (by omega) (by omega)), if_pos (by omega), show p + 0 + 1 = p + 1 by omega]
  rw [lt9_eq, if_neg hz]
theorem lt_2 {A : Nat → Int} {n p : Int} (h : le9 A n p = p + 2) : lt9 A n p p 0 = (p + 2, (32 * (32 * (0 : Int) + by9 A n (p + 0) - 96) + by9 A n (p + 1) - 96)) := by
  have hl : ∀ i, p ≤ i → i < p + 2 → 97 ≤ by9 A n i ∧ by9 A n i ≤ 122 := fun i h1 h2 => le9_all h1 (by omega)
  have hz := le9_id A n p
  rw [h] at hz
  have e0 : lt9 A n p p 0 = lt9 A n p (p + 0) 0 := by rw [Int.add_zero]
  rw [e0]
  rw [lt9_eq, if_pos (hl (p + 0) (by omega) (by omega)), if_pos (by omega), show p + 0 + 1 = p + 1 by omega]
  rw [lt9_eq, if_pos (hl (p + 1) (by omega) (by omega)), if_pos (by omega), show p + 1 + 1 = p + 2 by omega]
  rw [lt9_eq, if_neg hz]
theorem lt_3 {A : Nat → Int} {n p : Int} (h : le9 A n p = p + 3) : lt9 A n p p 0 = (p + 3, (32 * (32 * (32 * (0 : Int) + by9 A n (p + 0) - 96) + by9 A n (p + 1) - 96) + by9 A n (p + 2) - 96)) := by
  have hl : ∀ i, p ≤ i → i < p + 3 → 97 ≤ by9 A n i ∧ by9 A n i ≤ 122 := fun i h1 h2 => le9_all h1 (by omega)
  have hz := le9_id A n p
  rw [h] at hz
  have e0 : lt9 A n p p 0 = lt9 A n p (p + 0) 0 := by rw [Int.add_zero]
  rw [e0]
  rw [lt9_eq, if_pos (hl (p + 0) (by omega) (by omega)), if_pos (by omega), show p + 0 + 1 = p + 1 by omega]
  rw [lt9_eq, if_pos (hl (p + 1) (by omega) (by omega)), if_pos (by omega), show p + 1 + 1 = p + 2 by omega]
  rw [lt9_eq, if_pos (hl (p + 2) (by omega) (by omega)), if_pos (by omega), show p + 2 + 1 = p + 3 by omega]
  rw [lt9_eq, if_neg hz]
theorem lt_4 {A : Nat → Int} {n p : Int} (h : le9 A n p = p + 4) : lt9 A n p p 0 = (p + 4, (32 * (32 * (32 * (32 * (0 : Int) + by9 A n (p + 0) - 96) + by9 A n (p + 1) - 96) + by9 A n (p + 2) - 96) + by9 A n (p + 3) - 96)) := by
  have hl : ∀ i, p ≤ i → i < p + 4 → 97 ≤ by9 A n i ∧ by9 A n i ≤ 122 := fun i h1 h2 => le9_all h1 (by omega)
  have hz := le9_id A n p
  rw [h] at hz
  have e0 : lt9 A n p p 0 = lt9 A n p (p + 0) 0 := by rw [Int.add_zero]
  rw [e0]
  rw [lt9_eq, if_pos (hl (p + 0) (by omega) (by omega)), if_pos (by omega), show p + 0 + 1 = p + 1 by omega]
  rw [lt9_eq, if_pos (hl (p + 1) (by omega) (by omega)), if_pos (by omega), show p + 1 + 1 = p + 2 by omega]
  rw [lt9_eq, if_pos (hl (p + 2) (by omega) (by omega)), if_pos (by omega), show p + 2 + 1 = p + 3 by omega]
  rw [lt9_eq, if_pos (hl (p + 3) (by omega) (by omega)), if_pos (by omega), show p + 3 + 1 = p + 4 by omega]
  rw [lt9_eq, if_neg hz]
theorem lt_5 {A : Nat → Int} {n p : Int} (h : le9 A n p = p + 5) : lt9 A n p p 0 = (p + 5, (32 * (32 * (32 * (32 * (32 * (0 : Int) + by9 A n (p + 0) - 96) + by9 A n (p + 1) - 96) + by9 A n (p + 2) - 96) + by9 A n (p + 3) - 96) + by9 A n (p + 4) - 96)) := by
  have hl : ∀ i, p ≤ i → i < p + 5 → 97 ≤ by9 A n i ∧ by9 A n i ≤ 122 := fun i h1 h2 => le9_all h1 (by omega)
  have hz := le9_id A n p
  rw [h] at hz
  have e0 : lt9 A n p p 0 = lt9 A n p (p + 0) 0 := by rw [Int.add_zero]
  rw [e0]
  rw [lt9_eq, if_pos (hl (p + 0) (by omega) (by omega)), if_pos (by omega), show p + 0 + 1 = p + 1 by omega]
  rw [lt9_eq, if_pos (hl (p + 1) (by omega) (by omega)), if_pos (by omega), show p + 1 + 1 = p + 2 by omega]
  rw [lt9_eq, if_pos (hl (p + 2) (by omega) (by omega)), if_pos (by omega), show p + 2 + 1 = p + 3 by omega]
  rw [lt9_eq, if_pos (hl (p + 3) (by omega) (by omega)), if_pos (by omega), show p + 3 + 1 = p + 4 by omega]
  rw [lt9_eq, if_pos (hl (p + 4) (by omega) (by omega)), if_pos (by omega), show p + 4 + 1 = p + 5 by omega]
  rw [lt9_eq, if_neg hz]
theorem lt_6 {A : Nat → Int} {n p : Int} (h : le9 A n p = p + 6) : lt9 A n p p 0 = (p + 6, (32 * (32 * (32 * (32 * (32 * (32 * (0 : Int) + by9 A n (p + 0) - 96) + by9 A n (p + 1) - 96) + by9 A n (p + 2) - 96) + by9 A n (p + 3) - 96) + by9 A n (p + 4) - 96) + by9 A n (p + 5) - 96)) := by
  have hl : ∀ i, p ≤ i → i < p + 6 → 97 ≤ by9 A n i ∧ by9 A n i ≤ 122 := fun i h1 h2 => le9_all h1 (by omega)
  have hz := le9_id A n p
  rw [h] at hz
  have e0 : lt9 A n p p 0 = lt9 A n p (p + 0) 0 := by rw [Int.add_zero]
  rw [e0]
  rw [lt9_eq, if_pos (hl (p + 0) (by omega) (by omega)), if_pos (by omega), show p + 0 + 1 = p + 1 by omega]
  rw [lt9_eq, if_pos (hl (p + 1) (by omega) (by omega)), if_pos (by omega), show p + 1 + 1 = p + 2 by omega]
  rw [lt9_eq, if_pos (hl (p + 2) (by omega) (by omega)), if_pos (by omega), show p + 2 + 1 = p + 3 by omega]
  rw [lt9_eq, if_pos (hl (p + 3) (by omega) (by omega)), if_pos (by omega), show p + 3 + 1 = p + 4 by omega]
  rw [lt9_eq, if_pos (hl (p + 4) (by omega) (by omega)), if_pos (by omega), show p + 4 + 1 = p + 5 by omega]
  rw [lt9_eq, if_pos (hl (p + 5) (by omega) (by omega)), if_pos (by omega), show p + 5 + 1 = p + 6 by omega]
  rw [lt9_eq, if_neg hz]
theorem wr_wo {A t : Nat → Int} {fm to9 ln : Nat} (hT : tpr A ln t) (hl : fm < ln ∧ ln ≤ 500) (hc : 97 ≤ by9 A ln fm ∧ by9 A ln fm ≤ 122) (ht : (to9 : Int) = le9 A ln fm) : wr9 t fm to9 wch 8 fm true = cwm (wo9 (lt9 A ln fm fm 0).1 fm (lt9 A ln fm fm 0).2) := by
  have r1 := le9_r (A := A) (n := (ln : Int)) (q := (fm : Int)) (by omega)
  have r2 := le9_eq A ln fm
  rw [if_pos hc] at r2
  have r3 := le9_r (A := A) (n := (ln : Int)) (q := (fm : Int) + 1) (by omega)
  have lb : ∀ j : Nat, fm + j < to9 → 97 ≤ by9 A ln ((fm : Int) + j) ∧ by9 A ln ((fm : Int) + j) ≤ 122 ∧ t (fm + j) = by9 A ln ((fm : Int) + j) := by
    intro j hj
    have a := le9_all (A := A) (n := (ln : Int)) (q := (fm : Int)) (i := (fm : Int) + j) (by omega) (by omega)
    have b := tp_at hT (fm + j) (by omega)
    rw [show ((fm + j : Nat) : Int) = (fm : Int) + j by omega] at b
    omega
  rw [wr_all]
  rw [lt9_le]
  by_cases d7 : 6 < (to9 : Int) - fm
  · unfold wo9
    rw [← ht, if_pos d7]
    rw [if_neg (fun z => by have := z.2; omega), if_neg (fun z => by have := z.2; omega), if_neg (fun z => by have := z.2; omega), if_neg (fun z => by have := z.2; omega), if_neg (fun z => by have := z.2; omega), if_neg (fun z => by have := z.2; omega), if_neg (fun z => by have := z.2; omega), if_neg (fun z => by have := z.2; omega), if_neg (fun z => by have := z.2; omega), if_neg (fun z => by have := z.2; omega), if_neg (fun z => by have := z.2; omega), if_neg (fun z => by have := z.2; omega), if_neg (fun z => by have := z.2; omega), if_neg (fun z => by have := z.2; omega), if_neg (fun z => by have := z.2; omega)]; decide
  unfold wo9
  rw [← ht, if_neg d7, ← wl_wrd]
  rcases (by omega : to9 = fm + 1 ∨ to9 = fm + 2 ∨ to9 = fm + 3 ∨ to9 = fm + 4 ∨ to9 = fm + 5 ∨ to9 = fm + 6) with e | e | e | e | e | e
  · have v9 := lt_1 (A := A) (n := (ln : Int)) (p := (fm : Int)) (by omega)
    rw [v9]
    dsimp only
    have l0 := lb 0 (by omega)
    subst e
    obtain ⟨c0, g0⟩ : ∃ c : Int, c = by9 A ln ((fm : Int) + 0) := ⟨_, rfl⟩
    rw [show ((((0 : Nat)) : Int)) = 0 from rfl, ← g0] at l0
    rw [← g0]
    simp only [Nat.add_zero] at l0
    unfold wl9
    refine ifc9 (?_ : _ ↔ _) rfl ?_
    · constructor
      · intro z; have := z.2; omega
      · intro z; exfalso; omega
    refine ifc9 (?_ : _ ↔ _) rfl ?_
    · constructor
      · intro z; have := z.2; omega
      · intro z; exfalso; omega
    refine ifc9 (?_ : _ ↔ _) rfl ?_
    · constructor
      · intro z; have := z.2; omega
      · intro z; exfalso; omega
    refine ifc9 (?_ : _ ↔ _) rfl ?_
    · constructor
      · intro z; have := z.2; omega
      · intro z; exfalso; omega
    refine ifc9 (?_ : _ ↔ _) rfl ?_
    · constructor
      · intro z; have := z.2; omega
      · intro z; exfalso; omega
    refine ifc9 (?_ : _ ↔ _) rfl ?_
    · constructor
      · intro z; have := z.2; omega
      · intro z; exfalso; omega
    refine ifc9 (?_ : _ ↔ _) rfl ?_
    · constructor
      · intro z; have := z.2; omega
      · intro z; exfalso; omega
    refine ifc9 (?_ : _ ↔ _) rfl ?_
    · constructor
      · intro z; have := z.2; omega
      · intro z; exfalso; omega
    refine ifc9 (?_ : _ ↔ _) rfl ?_
    · constructor
      · intro z; have := z.2; omega
      · intro z; exfalso; omega
    refine ifc9 (?_ : _ ↔ _) rfl ?_
    · constructor
      · intro z; have := z.2; omega
      · intro z; exfalso; omega
    refine ifc9 (?_ : _ ↔ _) rfl ?_
    · constructor
      · intro z; have := z.2; omega
      · intro z; exfalso; omega
    refine ifc9 (?_ : _ ↔ _) rfl ?_
    · constructor
      · intro z; have := z.2; omega
      · intro z; exfalso; omega
    refine ifc9 (?_ : _ ↔ _) rfl ?_
    · constructor
      · intro z; have := z.2; omega
      · intro z; exfalso; omega
    refine ifc9 (?_ : _ ↔ _) rfl ?_
    · constructor
      · intro z; have := z.2; omega
      · intro z; exfalso; omega
    refine ifc9 (?_ : _ ↔ _) rfl ?_
    · constructor
      · intro z; have := z.2; omega
      · intro z; exfalso; omega
    rfl
  · have v9 := lt_2 (A := A) (n := (ln : Int)) (p := (fm : Int)) (by omega)
    rw [v9]
    dsimp only
    have l0 := lb 0 (by omega)
    have l1 := lb 1 (by omega)
    subst e
    obtain ⟨c0, g0⟩ : ∃ c : Int, c = by9 A ln ((fm : Int) + 0) := ⟨_, rfl⟩
    rw [show ((((0 : Nat)) : Int)) = 0 from rfl, ← g0] at l0
    rw [← g0]
    obtain ⟨c1, g1⟩ : ∃ c : Int, c = by9 A ln ((fm : Int) + 1) := ⟨_, rfl⟩
    rw [show ((((1 : Nat)) : Int)) = 1 from rfl, ← g1] at l1
    rw [← g1]
    simp only [Nat.add_zero] at l0
    unfold wl9
    refine ifc9 (?_ : _ ↔ _) rfl ?_
    · simp only [mtc, Bool.and_eq_true, decide_eq_true_eq, Bool.true_and, Nat.add_assoc, Nat.reduceAdd, eq_self, and_true]; constructor <;> intro z <;> omega
    refine ifc9 (?_ : _ ↔ _) rfl ?_
    · constructor
      · intro z; have := z.2; omega
      · intro z; exfalso; omega
    refine ifc9 (?_ : _ ↔ _) rfl ?_
    · constructor
      · intro z; have := z.2; omega
      · intro z; exfalso; omega
    refine ifc9 (?_ : _ ↔ _) rfl ?_
    · constructor
      · intro z; have := z.2; omega
      · intro z; exfalso; omega
    refine ifc9 (?_ : _ ↔ _) rfl ?_
    · constructor
      · intro z; have := z.2; omega
      · intro z; exfalso; omega
    refine ifc9 (?_ : _ ↔ _) rfl ?_
    · constructor
      · intro z; have := z.2; omega
      · intro z; exfalso; omega
    refine ifc9 (?_ : _ ↔ _) rfl ?_
    · constructor
      · intro z; have := z.2; omega
      · intro z; exfalso; omega
    refine ifc9 (?_ : _ ↔ _) rfl ?_
    · constructor
      · intro z; have := z.2; omega
      · intro z; exfalso; omega
    refine ifc9 (?_ : _ ↔ _) rfl ?_
    · constructor
      · intro z; have := z.2; omega
      · intro z; exfalso; omega
    refine ifc9 (?_ : _ ↔ _) rfl ?_
    · constructor
      · intro z; have := z.2; omega
      · intro z; exfalso; omega
    refine ifc9 (?_ : _ ↔ _) rfl ?_
    · constructor
      · intro z; have := z.2; omega
      · intro z; exfalso; omega
    refine ifc9 (?_ : _ ↔ _) rfl ?_
    · constructor
      · intro z; have := z.2; omega
      · intro z; exfalso; omega
    refine ifc9 (?_ : _ ↔ _) rfl ?_
    · constructor
      · intro z; have := z.2; omega
      · intro z; exfalso; omega
    refine ifc9 (?_ : _ ↔ _) rfl ?_
    · constructor
      · intro z; have := z.2; omega
      · intro z; exfalso; omega
    refine ifc9 (?_ : _ ↔ _) rfl ?_
    · constructor
      · intro z; have := z.2; omega
      · intro z; exfalso; omega
    rfl
  · have v9 := lt_3 (A := A) (n := (ln : Int)) (p := (fm : Int)) (by omega)
    rw [v9]
    dsimp only
    have l0 := lb 0 (by omega)
    have l1 := lb 1 (by omega)
    have l2 := lb 2 (by omega)
    subst e
    obtain ⟨c0, g0⟩ : ∃ c : Int, c = by9 A ln ((fm : Int) + 0) := ⟨_, rfl⟩
    rw [show ((((0 : Nat)) : Int)) = 0 from rfl, ← g0] at l0
    rw [← g0]
    obtain ⟨c1, g1⟩ : ∃ c : Int, c = by9 A ln ((fm : Int) + 1) := ⟨_, rfl⟩
    rw [show ((((1 : Nat)) : Int)) = 1 from rfl, ← g1] at l1
    rw [← g1]
    obtain ⟨c2, g2⟩ : ∃ c : Int, c = by9 A ln ((fm : Int) + 2) := ⟨_, rfl⟩
    rw [show ((((2 : Nat)) : Int)) = 2 from rfl, ← g2] at l2
    rw [← g2]
    simp only [Nat.add_zero] at l0
    unfold wl9
    refine ifc9 (?_ : _ ↔ _) rfl ?_
    · constructor
      · intro z; have := z.2; omega
      · intro z; exfalso; omega
    refine ifc9 (?_ : _ ↔ _) rfl ?_
    · simp only [mtc, Bool.and_eq_true, decide_eq_true_eq, Bool.true_and, Nat.add_assoc, Nat.reduceAdd, eq_self, and_true]; constructor <;> intro z <;> omega
    refine ifc9 (?_ : _ ↔ _) rfl ?_
    · simp only [mtc, Bool.and_eq_true, decide_eq_true_eq, Bool.true_and, Nat.add_assoc, Nat.reduceAdd, eq_self, and_true]; constructor <;> intro z <;> omega
    refine ifc9 (?_ : _ ↔ _) rfl ?_
    · constructor
      · intro z; have := z.2; omega
      · intro z; exfalso; omega
    refine ifc9 (?_ : _ ↔ _) rfl ?_
    · constructor
      · intro z; have := z.2; omega
      · intro z; exfalso; omega
    refine ifc9 (?_ : _ ↔ _) rfl ?_
    · simp only [mtc, Bool.and_eq_true, decide_eq_true_eq, Bool.true_and, Nat.add_assoc, Nat.reduceAdd, eq_self, and_true]; constructor <;> intro z <;> omega
    refine ifc9 (?_ : _ ↔ _) rfl ?_
    · constructor
      · intro z; have := z.2; omega
      · intro z; exfalso; omega
    refine ifc9 (?_ : _ ↔ _) rfl ?_
    · constructor
      · intro z; have := z.2; omega
      · intro z; exfalso; omega
    refine ifc9 (?_ : _ ↔ _) rfl ?_
    · constructor
      · intro z; have := z.2; omega
      · intro z; exfalso; omega
    refine ifc9 (?_ : _ ↔ _) rfl ?_
    · constructor
      · intro z; have := z.2; omega
      · intro z; exfalso; omega
    refine ifc9 (?_ : _ ↔ _) rfl ?_
    · constructor
      · intro z; have := z.2; omega
      · intro z; exfalso; omega
    refine ifc9 (?_ : _ ↔ _) rfl ?_
    · constructor
      · intro z; have := z.2; omega
      · intro z; exfalso; omega
    refine ifc9 (?_ : _ ↔ _) rfl ?_
    · constructor
      · intro z; have := z.2; omega
      · intro z; exfalso; omega
    refine ifc9 (?_ : _ ↔ _) rfl ?_
    · constructor
      · intro z; have := z.2; omega
      · intro z; exfalso; omega
    refine ifc9 (?_ : _ ↔ _) rfl ?_
    · constructor
      · intro z; have := z.2; omega
      · intro z; exfalso; omega
    rfl
  · have v9 := lt_4 (A := A) (n := (ln : Int)) (p := (fm : Int)) (by omega)
    rw [v9]
    dsimp only
    have l0 := lb 0 (by omega)
    have l1 := lb 1 (by omega)
    have l2 := lb 2 (by omega)
    have l3 := lb 3 (by omega)
    subst e
    obtain ⟨c0, g0⟩ : ∃ c : Int, c = by9 A ln ((fm : Int) + 0) := ⟨_, rfl⟩
    rw [show ((((0 : Nat)) : Int)) = 0 from rfl, ← g0] at l0
    rw [← g0]
    obtain ⟨c1, g1⟩ : ∃ c : Int, c = by9 A ln ((fm : Int) + 1) := ⟨_, rfl⟩
    rw [show ((((1 : Nat)) : Int)) = 1 from rfl, ← g1] at l1
    rw [← g1]
    obtain ⟨c2, g2⟩ : ∃ c : Int, c = by9 A ln ((fm : Int) + 2) := ⟨_, rfl⟩
    rw [show ((((2 : Nat)) : Int)) = 2 from rfl, ← g2] at l2
    rw [← g2]
    obtain ⟨c3, g3⟩ : ∃ c : Int, c = by9 A ln ((fm : Int) + 3) := ⟨_, rfl⟩
    rw [show ((((3 : Nat)) : Int)) = 3 from rfl, ← g3] at l3
    rw [← g3]
    simp only [Nat.add_zero] at l0
    unfold wl9
    refine ifc9 (?_ : _ ↔ _) rfl ?_
    · constructor
      · intro z; have := z.2; omega
      · intro z; exfalso; omega
    refine ifc9 (?_ : _ ↔ _) rfl ?_
    · constructor
      · intro z; have := z.2; omega
      · intro z; exfalso; omega
    refine ifc9 (?_ : _ ↔ _) rfl ?_
    · constructor
      · intro z; have := z.2; omega
      · intro z; exfalso; omega
    refine ifc9 (?_ : _ ↔ _) rfl ?_
    · constructor
      · intro z; have := z.2; omega
      · intro z; exfalso; omega
    refine ifc9 (?_ : _ ↔ _) rfl ?_
    · constructor
      · intro z; have := z.2; omega
      · intro z; exfalso; omega
    refine ifc9 (?_ : _ ↔ _) rfl ?_
    · constructor
      · intro z; have := z.2; omega
      · intro z; exfalso; omega
    refine ifc9 (?_ : _ ↔ _) rfl ?_
    · simp only [mtc, Bool.and_eq_true, decide_eq_true_eq, Bool.true_and, Nat.add_assoc, Nat.reduceAdd, eq_self, and_true]; constructor <;> intro z <;> omega
    refine ifc9 (?_ : _ ↔ _) rfl ?_
    · constructor
      · intro z; have := z.2; omega
      · intro z; exfalso; omega
    refine ifc9 (?_ : _ ↔ _) rfl ?_
    · simp only [mtc, Bool.and_eq_true, decide_eq_true_eq, Bool.true_and, Nat.add_assoc, Nat.reduceAdd, eq_self, and_true]; constructor <;> intro z <;> omega
    refine ifc9 (?_ : _ ↔ _) rfl ?_
    · constructor
      · intro z; have := z.2; omega
      · intro z; exfalso; omega
    refine ifc9 (?_ : _ ↔ _) rfl ?_
    · constructor
      · intro z; have := z.2; omega
      · intro z; exfalso; omega
    refine ifc9 (?_ : _ ↔ _) rfl ?_
    · simp only [mtc, Bool.and_eq_true, decide_eq_true_eq, Bool.true_and, Nat.add_assoc, Nat.reduceAdd, eq_self, and_true]; constructor <;> intro z <;> omega
    refine ifc9 (?_ : _ ↔ _) rfl ?_
    · simp only [mtc, Bool.and_eq_true, decide_eq_true_eq, Bool.true_and, Nat.add_assoc, Nat.reduceAdd, eq_self, and_true]; constructor <;> intro z <;> omega
    refine ifc9 (?_ : _ ↔ _) rfl ?_
    · simp only [mtc, Bool.and_eq_true, decide_eq_true_eq, Bool.true_and, Nat.add_assoc, Nat.reduceAdd, eq_self, and_true]; constructor <;> intro z <;> omega
    refine ifc9 (?_ : _ ↔ _) rfl ?_
    · simp only [mtc, Bool.and_eq_true, decide_eq_true_eq, Bool.true_and, Nat.add_assoc, Nat.reduceAdd, eq_self, and_true]; constructor <;> intro z <;> omega
    rfl
  · have v9 := lt_5 (A := A) (n := (ln : Int)) (p := (fm : Int)) (by omega)
    rw [v9]
    dsimp only
    have l0 := lb 0 (by omega)
    have l1 := lb 1 (by omega)
    have l2 := lb 2 (by omega)
    have l3 := lb 3 (by omega)
    have l4 := lb 4 (by omega)
    subst e
    obtain ⟨c0, g0⟩ : ∃ c : Int, c = by9 A ln ((fm : Int) + 0) := ⟨_, rfl⟩
    rw [show ((((0 : Nat)) : Int)) = 0 from rfl, ← g0] at l0
    rw [← g0]
    obtain ⟨c1, g1⟩ : ∃ c : Int, c = by9 A ln ((fm : Int) + 1) := ⟨_, rfl⟩
    rw [show ((((1 : Nat)) : Int)) = 1 from rfl, ← g1] at l1
    rw [← g1]
    obtain ⟨c2, g2⟩ : ∃ c : Int, c = by9 A ln ((fm : Int) + 2) := ⟨_, rfl⟩
    rw [show ((((2 : Nat)) : Int)) = 2 from rfl, ← g2] at l2
    rw [← g2]
    obtain ⟨c3, g3⟩ : ∃ c : Int, c = by9 A ln ((fm : Int) + 3) := ⟨_, rfl⟩
    rw [show ((((3 : Nat)) : Int)) = 3 from rfl, ← g3] at l3
    rw [← g3]
    obtain ⟨c4, g4⟩ : ∃ c : Int, c = by9 A ln ((fm : Int) + 4) := ⟨_, rfl⟩
    rw [show ((((4 : Nat)) : Int)) = 4 from rfl, ← g4] at l4
    rw [← g4]
    simp only [Nat.add_zero] at l0
    unfold wl9
    refine ifc9 (?_ : _ ↔ _) rfl ?_
    · constructor
      · intro z; have := z.2; omega
      · intro z; exfalso; omega
    refine ifc9 (?_ : _ ↔ _) rfl ?_
    · constructor
      · intro z; have := z.2; omega
      · intro z; exfalso; omega
    refine ifc9 (?_ : _ ↔ _) rfl ?_
    · constructor
      · intro z; have := z.2; omega
      · intro z; exfalso; omega
    refine ifc9 (?_ : _ ↔ _) rfl ?_
    · simp only [mtc, Bool.and_eq_true, decide_eq_true_eq, Bool.true_and, Nat.add_assoc, Nat.reduceAdd, eq_self, and_true]; constructor <;> intro z <;> omega
    refine ifc9 (?_ : _ ↔ _) rfl ?_
    · constructor
      · intro z; have := z.2; omega
      · intro z; exfalso; omega
    refine ifc9 (?_ : _ ↔ _) rfl ?_
    · constructor
      · intro z; have := z.2; omega
      · intro z; exfalso; omega
    refine ifc9 (?_ : _ ↔ _) rfl ?_
    · constructor
      · intro z; have := z.2; omega
      · intro z; exfalso; omega
    refine ifc9 (?_ : _ ↔ _) rfl ?_
    · constructor
      · intro z; have := z.2; omega
      · intro z; exfalso; omega
    refine ifc9 (?_ : _ ↔ _) rfl ?_
    · constructor
      · intro z; have := z.2; omega
      · intro z; exfalso; omega
    refine ifc9 (?_ : _ ↔ _) rfl ?_
    · simp only [mtc, Bool.and_eq_true, decide_eq_true_eq, Bool.true_and, Nat.add_assoc, Nat.reduceAdd, eq_self, and_true]; constructor <;> intro z <;> omega
    refine ifc9 (?_ : _ ↔ _) rfl ?_
    · constructor
      · intro z; have := z.2; omega
      · intro z; exfalso; omega
    refine ifc9 (?_ : _ ↔ _) rfl ?_
    · constructor
      · intro z; have := z.2; omega
      · intro z; exfalso; omega
    refine ifc9 (?_ : _ ↔ _) rfl ?_
    · constructor
      · intro z; have := z.2; omega
      · intro z; exfalso; omega
    refine ifc9 (?_ : _ ↔ _) rfl ?_
    · constructor
      · intro z; have := z.2; omega
      · intro z; exfalso; omega
    refine ifc9 (?_ : _ ↔ _) rfl ?_
    · constructor
      · intro z; have := z.2; omega
      · intro z; exfalso; omega
    rfl
  · have v9 := lt_6 (A := A) (n := (ln : Int)) (p := (fm : Int)) (by omega)
    rw [v9]
    dsimp only
    have l0 := lb 0 (by omega)
    have l1 := lb 1 (by omega)
    have l2 := lb 2 (by omega)
    have l3 := lb 3 (by omega)
    have l4 := lb 4 (by omega)
    have l5 := lb 5 (by omega)
    subst e
    obtain ⟨c0, g0⟩ : ∃ c : Int, c = by9 A ln ((fm : Int) + 0) := ⟨_, rfl⟩
    rw [show ((((0 : Nat)) : Int)) = 0 from rfl, ← g0] at l0
    rw [← g0]
    obtain ⟨c1, g1⟩ : ∃ c : Int, c = by9 A ln ((fm : Int) + 1) := ⟨_, rfl⟩
    rw [show ((((1 : Nat)) : Int)) = 1 from rfl, ← g1] at l1
    rw [← g1]
    obtain ⟨c2, g2⟩ : ∃ c : Int, c = by9 A ln ((fm : Int) + 2) := ⟨_, rfl⟩
    rw [show ((((2 : Nat)) : Int)) = 2 from rfl, ← g2] at l2
    rw [← g2]
    obtain ⟨c3, g3⟩ : ∃ c : Int, c = by9 A ln ((fm : Int) + 3) := ⟨_, rfl⟩
    rw [show ((((3 : Nat)) : Int)) = 3 from rfl, ← g3] at l3
    rw [← g3]
    obtain ⟨c4, g4⟩ : ∃ c : Int, c = by9 A ln ((fm : Int) + 4) := ⟨_, rfl⟩
    rw [show ((((4 : Nat)) : Int)) = 4 from rfl, ← g4] at l4
    rw [← g4]
    obtain ⟨c5, g5⟩ : ∃ c : Int, c = by9 A ln ((fm : Int) + 5) := ⟨_, rfl⟩
    rw [show ((((5 : Nat)) : Int)) = 5 from rfl, ← g5] at l5
    rw [← g5]
    simp only [Nat.add_zero] at l0
    unfold wl9
    refine ifc9 (?_ : _ ↔ _) rfl ?_
    · constructor
      · intro z; have := z.2; omega
      · intro z; exfalso; omega
    refine ifc9 (?_ : _ ↔ _) rfl ?_
    · constructor
      · intro z; have := z.2; omega
      · intro z; exfalso; omega
    refine ifc9 (?_ : _ ↔ _) rfl ?_
    · constructor
      · intro z; have := z.2; omega
      · intro z; exfalso; omega
    refine ifc9 (?_ : _ ↔ _) rfl ?_
    · constructor
      · intro z; have := z.2; omega
      · intro z; exfalso; omega
    refine ifc9 (?_ : _ ↔ _) rfl ?_
    · simp only [mtc, Bool.and_eq_true, decide_eq_true_eq, Bool.true_and, Nat.add_assoc, Nat.reduceAdd, eq_self, and_true]; constructor <;> intro z <;> omega
    refine ifc9 (?_ : _ ↔ _) rfl ?_
    · constructor
      · intro z; have := z.2; omega
      · intro z; exfalso; omega
    refine ifc9 (?_ : _ ↔ _) rfl ?_
    · constructor
      · intro z; have := z.2; omega
      · intro z; exfalso; omega
    refine ifc9 (?_ : _ ↔ _) rfl ?_
    · simp only [mtc, Bool.and_eq_true, decide_eq_true_eq, Bool.true_and, Nat.add_assoc, Nat.reduceAdd, eq_self, and_true]; constructor <;> intro z <;> omega
    refine ifc9 (?_ : _ ↔ _) rfl ?_
    · constructor
      · intro z; have := z.2; omega
      · intro z; exfalso; omega
    refine ifc9 (?_ : _ ↔ _) rfl ?_
    · constructor
      · intro z; have := z.2; omega
      · intro z; exfalso; omega
    refine ifc9 (?_ : _ ↔ _) rfl ?_
    · simp only [mtc, Bool.and_eq_true, decide_eq_true_eq, Bool.true_and, Nat.add_assoc, Nat.reduceAdd, eq_self, and_true]; constructor <;> intro z <;> omega
    refine ifc9 (?_ : _ ↔ _) rfl ?_
    · constructor
      · intro z; have := z.2; omega
      · intro z; exfalso; omega
    refine ifc9 (?_ : _ ↔ _) rfl ?_
    · constructor
      · intro z; have := z.2; omega
      · intro z; exfalso; omega
    refine ifc9 (?_ : _ ↔ _) rfl ?_
    · constructor
      · intro z; have := z.2; omega
      · intro z; exfalso; omega
    refine ifc9 (?_ : _ ↔ _) rfl ?_
    · constructor
      · intro z; have := z.2; omega
      · intro z; exfalso; omega
    rfl
