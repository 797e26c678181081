/-! the class at its beginning -/
def w00 (ar : Nat → ClassId) (b : Nat) : zcW := fun a => if a = b + 19 ∨ a = b + 47 then some (.inr (2, [.int (iz 0), .ref (a + 1), .ref (a + 2), .ref (a + 3)])) else if a = b + 20 ∨ a = b + 21 ∨ a = b + 48 ∨ a = b + 49 then some (.inl (ar 0, 16, .inl (fun q => iz ((fun _ => (0 : Int)) q)))) else if a = b + 22 ∨ a = b + 50 then some (.inl (ar 0, 256, .inl (fun q => iz ((fun _ => (0 : Int)) q)))) else none
def t00 (b e0 : Nat) : Nat → Nat → Int := fun j => if j = 1 then ua (ua (ua (fun _ => 0) 9 (-1)) 10 1) 14 (-1) else if j = 2 ∨ j = 3 ∨ j = 6 ∨ j = 7 ∨ j = 8 then lv9 0 ((e0 : Nat) : Int) 0 else if j = 5 then ua (ua (ua (ua (fun _ => (0 : Int)) 1 (-1)) 3 (-1)) 5 (-1)) 7 (-1) else if j = 10 then (fun q => if q < 3 then ((b + 19 : Nat) : Int) else -1) else if j = 23 then (fun _ => -1) else if j = 44 then ua (fun _ => 0) 5 ((b + 47 : Nat) : Int) else fun _ => 0
theorem ci_00 (ar : Nat → ClassId) {b n e0 : Nat} (hn : b + 51 ≤ n) (he0 : e0 < b) : CI9 ar b (w00 ar b) n e0 (fun _ => 0) s00 (t00 b e0) := by
  have z : ∀ i, i ≠ 9 ∧ i ≠ 12 ∧ i ≠ 13 ∧ i ≠ 20 ∧ i ≠ 22 ∧ i ≠ 24 ∧ i ≠ 26 → A00 i = 0 := fun i h => A00_0 h
  have e1 : s00 1 = A00 := rfl
  have tj : ∀ j, isj9 j → t00 b e0 j = lv9 0 ((e0 : Nat) : Int) 0 := by
    intro j hj
    rcases hj with rfl | rfl | rfl | rfl | rfl <;> rfl
  have LL : ∀ j (ci : Nat) (fs : Nat → List Value), isj9 j → rlL ar b (w00 ar b) (t00 b e0 j) 0 ci fs := by
    intro j ci fs hj
    rw [tj j hj]
    exact ⟨rfl, fun i hi => by omega⟩
  refine ⟨⟨?_, fun j hj => ?_, fun i hi => ?_, fun i hi => ?_⟩, fun k hk => ?_, fun a ha => ?_, hn, he0⟩
  · rw [e1]
    have a1 := z 1 (by decide)
    have a2 := z 2 (by decide)
    have a3 := z 3 (by decide)
    have a4 := z 4 (by decide)
    have a5 := z 5 (by decide)
    have a6 := z 6 (by decide)
    have a7 := z 7 (by decide)
    have a10 := z 10 (by decide)
    refine ⟨⟨rfl, rfl, rfl, rfl, rfl, rfl, rfl, rfl, rfl⟩, by rw [a1]; exact LL 2 _ _ (by unfold isj9; decide), by rw [a2]; exact LL 3 _ _ (by unfold isj9; decide), by rw [a3]; exact LL 6 _ _ (by unfold isj9; decide), by rw [a4]; exact LL 7 _ _ (by unfold isj9; decide), by rw [a5]; exact LL 8 _ _ (by unfold isj9; decide), fun i hi => ?_, fun y hy => ?_, fun i hi => ?_, fun k hk => ?_, fun k q hk hq => ?_, fun k hk => ?_, fun k t hk ht => ?_⟩
    · rw [a2, if_neg (by omega)]; rfl
    · rcases (by omega : y = 0 ∨ y = 1 ∨ y = 2 ∨ y = 3) with rfl | rfl | rfl | rfl
      · exact ⟨⟨by show inI (0 : Int); decide, by show inI (-1 : Int); decide⟩, fun d => by show ((0 : Int) ≤ d ∧ d ≤ -1) ↔ ((1 : Int) ≤ d ∧ d ≤ 0); omega⟩
      · exact ⟨⟨by show inI (0 : Int); decide, by show inI (-1 : Int); decide⟩, fun d => by show ((0 : Int) ≤ d ∧ d ≤ -1) ↔ ((1 : Int) ≤ d ∧ d ≤ 0); omega⟩
      · exact ⟨⟨by show inI (0 : Int); decide, by show inI (-1 : Int); decide⟩, fun d => by show ((0 : Int) ≤ d ∧ d ≤ -1) ↔ ((1 : Int) ≤ d ∧ d ≤ 0); omega⟩
      · exact ⟨⟨by show inI (0 : Int); decide, by show inI (-1 : Int); decide⟩, fun d => by show ((0 : Int) ≤ d ∧ d ≤ -1) ↔ ((1 : Int) ≤ d ∧ d ≤ 0); omega⟩
    · rw [a10] at hi; omega
    · have ak := z (14 + k) (by omega)
      refine ⟨b + 19, if_pos hk, b + 20, b + 21, b + 22, fun _ => 0, fun _ => 0, fun _ => 0, ⟨Or.inr (Or.inl (by omega)), ?_⟩, ⟨Or.inr (Or.inl (by omega)), ?_⟩, ⟨Or.inr (Or.inl (by omega)), ?_⟩, ⟨Or.inr (Or.inl (by omega)), ?_⟩, fun x hx => by rw [ak] at hx; omega⟩
      · rw [ak]; unfold w00; rw [if_pos (Or.inl rfl)]
      · unfold w00; rw [if_neg (by omega), if_pos (by omega)]
      · unfold w00; rw [if_neg (by omega), if_pos (by omega)]
      · unfold w00; rw [if_neg (by omega), if_neg (by omega), if_pos (by omega)]
    · rw [a6] at hk; omega
    · rw [a7] at hk; omega
    · rw [a7, if_neg (by omega)]; rfl
  · rw [tj j hj]
    exact ⟨Or.inl ⟨rfl, rfl⟩, fun e t1 ne => absurd (by have q : ((e0 : Nat) : Int) = (e : Int) := t1; omega) ne⟩
  · show -128 ≤ (0 : Int) ∧ (0 : Int) ≤ 127
    decide
  · show inI 0
    omega
  · exact Or.inl ⟨by show (-1 : Int) < 0; decide, rfl⟩
  · unfold w00
    rw [if_neg (by omega), if_neg (by omega), if_neg (by omega)]
