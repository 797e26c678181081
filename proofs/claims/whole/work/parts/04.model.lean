/-! the reference's object and its sixteen arrays: cells a0 .. a0 + 16; σ 0 its int fields by their places, σ j what array j holds -/
def u2 (σ : Nat → Nat → Int) (a i : Nat) (v : Int) : Nat → Nat → Int := fun x => if x = a then (fun y => if y = i then v else σ a y) else σ x
theorem u2_same (σ : Nat → Nat → Int) (a i : Nat) (v : Int) : u2 σ a i v a i = v := by simp [u2]
theorem u2_arr (σ : Nat → Nat → Int) {a b : Nat} (i : Nat) (v : Int) (h : b ≠ a) : u2 σ a i v b = σ b := by simp [u2, h]
theorem u2_at (σ : Nat → Nat → Int) (a i : Nat) (v : Int) (k : Nat) : u2 σ a i v a k = if k = i then v else σ a k := by simp [u2]
theorem u2_ne (σ : Nat → Nat → Int) (a : Nat) {i k : Nat} (v : Int) (h : k ≠ i) : u2 σ a i v a k = σ a k := by simp [u2, h]
def moF (a0 : Nat) (σ : Nat → Nat → Int) : List Value := [.ref (a0 + 1), .ref (a0 + 2), .int (iz (σ 0 2)), .int (iz (σ 0 3)), .int (iz (σ 0 4)), .int (iz (σ 0 5)), .int (iz (σ 0 6)), .int (iz (σ 0 7)), .int (iz (σ 0 8)), .int (iz (σ 0 9)), .int (iz (σ 0 10)), .ref (a0 + 3), .ref (a0 + 4), .ref (a0 + 5), .ref (a0 + 6), .ref (a0 + 7), .ref (a0 + 8), .int (iz (σ 0 17)), .int (iz (σ 0 18)), .ref (a0 + 9), .ref (a0 + 10), .ref (a0 + 11), .ref (a0 + 12), .ref (a0 + 13), .ref (a0 + 14), .ref (a0 + 15), .ref (a0 + 16), .int (iz (σ 0 27))]
def moW (cI cZ : ClassId) (a0 : Nat) (σ : Nat → Nat → Int) : va_W := [(a0, .inr (13, moF a0 σ)), (a0 + 1, .inl (cI, 9040, .inl (fun i => iz (σ 1 i)))), (a0 + 2, .inl (cZ, 3, .inl (fun i => iz (σ 2 i)))), (a0 + 3, .inl (cI, 320, .inl (fun i => iz (σ 3 i)))), (a0 + 4, .inl (cI, 4, .inl (fun i => iz (σ 4 i)))), (a0 + 5, .inl (cI, 24, .inl (fun i => iz (σ 5 i)))), (a0 + 6, .inl (cI, 12, .inl (fun i => iz (σ 6 i)))), (a0 + 7, .inl (cI, 4096, .inl (fun i => iz (σ 7 i)))), (a0 + 8, .inl (cI, 24, .inl (fun i => iz (σ 8 i)))), (a0 + 9, .inl (cI, 7, .inl (fun i => iz (σ 9 i)))), (a0 + 10, .inl (cZ, 7, .inl (fun i => iz (σ 10 i)))), (a0 + 11, .inl (cI, 7, .inl (fun i => iz (σ 11 i)))), (a0 + 12, .inl (cI, 7, .inl (fun i => iz (σ 12 i)))), (a0 + 13, .inl (cI, 3, .inl (fun i => iz (σ 13 i)))), (a0 + 14, .inl (cI, 12, .inl (fun i => iz (σ 14 i)))), (a0 + 15, .inl (cI, 6, .inl (fun i => iz (σ 15 i)))), (a0 + 16, .inl (cI, 6, .inl (fun i => iz (σ 16 i))))]
theorem moW_ad (cI cZ : ClassId) (a0 : Nat) (σ : Nat → Nat → Int) {k : Nat} {q : Nat × va_E} (h : (moW cI cZ a0 σ)[k]? = some q) : q.1 = a0 + k ∧ k < 17 := by
  have hk : k < 17 := (List.getElem?_eq_some_iff.mp h).1
  refine ⟨?_, hk⟩
  match k, hk, h with
  | 0, _, h => cases h; rfl
  | 1, _, h => cases h; rfl
  | 2, _, h => cases h; rfl
  | 3, _, h => cases h; rfl
  | 4, _, h => cases h; rfl
  | 5, _, h => cases h; rfl
  | 6, _, h => cases h; rfl
  | 7, _, h => cases h; rfl
  | 8, _, h => cases h; rfl
  | 9, _, h => cases h; rfl
  | 10, _, h => cases h; rfl
  | 11, _, h => cases h; rfl
  | 12, _, h => cases h; rfl
  | 13, _, h => cases h; rfl
  | 14, _, h => cases h; rfl
  | 15, _, h => cases h; rfl
  | 16, _, h => cases h; rfl
theorem moW_D (cI cZ : ClassId) (a0 : Nat) (σ : Nat → Nat → Int) : va_D (fun q => a0 ≤ q ∧ q < a0 + 17) (moW cI cZ a0 σ) := by
  refine ⟨fun i j p q hi hj e => ?_, fun k q h => ?_⟩
  · have h1 := moW_ad cI cZ a0 σ hi
    have h2 := moW_ad cI cZ a0 σ hj
    omega
  · have h1 := moW_ad cI cZ a0 σ h
    omega
theorem moW_set1 (cI cZ : ClassId) (a0 : Nat) (σ : Nat → Nat → Int) (k : Nat) (v : Int) : (moW cI cZ a0 σ).set 1 (a0 + 1, .inl (cI, 9040, .inl (upd (fun i => iz (σ 1 i)) k (iz v)))) = moW cI cZ a0 (u2 σ 1 k v) := by
  have e : (upd (fun i => iz (σ 1 i)) k (iz v)) = fun i => iz (u2 σ 1 k v 1 i) := by
    funext q
    by_cases h : q = k
    · subst h; simp [upd, u2]
    · simp [upd, u2, h]
  rw [e]
  rfl
theorem moW_set2 (cI cZ : ClassId) (a0 : Nat) (σ : Nat → Nat → Int) (k : Nat) (v : Int) : (moW cI cZ a0 σ).set 2 (a0 + 2, .inl (cZ, 3, .inl (upd (fun i => iz (σ 2 i)) k (iz v)))) = moW cI cZ a0 (u2 σ 2 k v) := by
  have e : (upd (fun i => iz (σ 2 i)) k (iz v)) = fun i => iz (u2 σ 2 k v 2 i) := by
    funext q
    by_cases h : q = k
    · subst h; simp [upd, u2]
    · simp [upd, u2, h]
  rw [e]
  rfl
theorem moW_set3 (cI cZ : ClassId) (a0 : Nat) (σ : Nat → Nat → Int) (k : Nat) (v : Int) : (moW cI cZ a0 σ).set 3 (a0 + 3, .inl (cI, 320, .inl (upd (fun i => iz (σ 3 i)) k (iz v)))) = moW cI cZ a0 (u2 σ 3 k v) := by
  have e : (upd (fun i => iz (σ 3 i)) k (iz v)) = fun i => iz (u2 σ 3 k v 3 i) := by
    funext q
    by_cases h : q = k
    · subst h; simp [upd, u2]
    · simp [upd, u2, h]
  rw [e]
  rfl
theorem moW_set4 (cI cZ : ClassId) (a0 : Nat) (σ : Nat → Nat → Int) (k : Nat) (v : Int) : (moW cI cZ a0 σ).set 4 (a0 + 4, .inl (cI, 4, .inl (upd (fun i => iz (σ 4 i)) k (iz v)))) = moW cI cZ a0 (u2 σ 4 k v) := by
  have e : (upd (fun i => iz (σ 4 i)) k (iz v)) = fun i => iz (u2 σ 4 k v 4 i) := by
    funext q
    by_cases h : q = k
    · subst h; simp [upd, u2]
    · simp [upd, u2, h]
  rw [e]
  rfl
theorem moW_set5 (cI cZ : ClassId) (a0 : Nat) (σ : Nat → Nat → Int) (k : Nat) (v : Int) : (moW cI cZ a0 σ).set 5 (a0 + 5, .inl (cI, 24, .inl (upd (fun i => iz (σ 5 i)) k (iz v)))) = moW cI cZ a0 (u2 σ 5 k v) := by
  have e : (upd (fun i => iz (σ 5 i)) k (iz v)) = fun i => iz (u2 σ 5 k v 5 i) := by
    funext q
    by_cases h : q = k
    · subst h; simp [upd, u2]
    · simp [upd, u2, h]
  rw [e]
  rfl
theorem moW_set6 (cI cZ : ClassId) (a0 : Nat) (σ : Nat → Nat → Int) (k : Nat) (v : Int) : (moW cI cZ a0 σ).set 6 (a0 + 6, .inl (cI, 12, .inl (upd (fun i => iz (σ 6 i)) k (iz v)))) = moW cI cZ a0 (u2 σ 6 k v) := by
  have e : (upd (fun i => iz (σ 6 i)) k (iz v)) = fun i => iz (u2 σ 6 k v 6 i) := by
    funext q
    by_cases h : q = k
    · subst h; simp [upd, u2]
    · simp [upd, u2, h]
  rw [e]
  rfl
theorem moW_set7 (cI cZ : ClassId) (a0 : Nat) (σ : Nat → Nat → Int) (k : Nat) (v : Int) : (moW cI cZ a0 σ).set 7 (a0 + 7, .inl (cI, 4096, .inl (upd (fun i => iz (σ 7 i)) k (iz v)))) = moW cI cZ a0 (u2 σ 7 k v) := by
  have e : (upd (fun i => iz (σ 7 i)) k (iz v)) = fun i => iz (u2 σ 7 k v 7 i) := by
    funext q
    by_cases h : q = k
    · subst h; simp [upd, u2]
    · simp [upd, u2, h]
  rw [e]
  rfl
theorem moW_set8 (cI cZ : ClassId) (a0 : Nat) (σ : Nat → Nat → Int) (k : Nat) (v : Int) : (moW cI cZ a0 σ).set 8 (a0 + 8, .inl (cI, 24, .inl (upd (fun i => iz (σ 8 i)) k (iz v)))) = moW cI cZ a0 (u2 σ 8 k v) := by
  have e : (upd (fun i => iz (σ 8 i)) k (iz v)) = fun i => iz (u2 σ 8 k v 8 i) := by
    funext q
    by_cases h : q = k
    · subst h; simp [upd, u2]
    · simp [upd, u2, h]
  rw [e]
  rfl
theorem moW_set9 (cI cZ : ClassId) (a0 : Nat) (σ : Nat → Nat → Int) (k : Nat) (v : Int) : (moW cI cZ a0 σ).set 9 (a0 + 9, .inl (cI, 7, .inl (upd (fun i => iz (σ 9 i)) k (iz v)))) = moW cI cZ a0 (u2 σ 9 k v) := by
  have e : (upd (fun i => iz (σ 9 i)) k (iz v)) = fun i => iz (u2 σ 9 k v 9 i) := by
    funext q
    by_cases h : q = k
    · subst h; simp [upd, u2]
    · simp [upd, u2, h]
  rw [e]
  rfl
theorem moW_set10 (cI cZ : ClassId) (a0 : Nat) (σ : Nat → Nat → Int) (k : Nat) (v : Int) : (moW cI cZ a0 σ).set 10 (a0 + 10, .inl (cZ, 7, .inl (upd (fun i => iz (σ 10 i)) k (iz v)))) = moW cI cZ a0 (u2 σ 10 k v) := by
  have e : (upd (fun i => iz (σ 10 i)) k (iz v)) = fun i => iz (u2 σ 10 k v 10 i) := by
    funext q
    by_cases h : q = k
    · subst h; simp [upd, u2]
    · simp [upd, u2, h]
  rw [e]
  rfl
theorem moW_set11 (cI cZ : ClassId) (a0 : Nat) (σ : Nat → Nat → Int) (k : Nat) (v : Int) : (moW cI cZ a0 σ).set 11 (a0 + 11, .inl (cI, 7, .inl (upd (fun i => iz (σ 11 i)) k (iz v)))) = moW cI cZ a0 (u2 σ 11 k v) := by
  have e : (upd (fun i => iz (σ 11 i)) k (iz v)) = fun i => iz (u2 σ 11 k v 11 i) := by
    funext q
    by_cases h : q = k
    · subst h; simp [upd, u2]
    · simp [upd, u2, h]
  rw [e]
  rfl
theorem moW_set12 (cI cZ : ClassId) (a0 : Nat) (σ : Nat → Nat → Int) (k : Nat) (v : Int) : (moW cI cZ a0 σ).set 12 (a0 + 12, .inl (cI, 7, .inl (upd (fun i => iz (σ 12 i)) k (iz v)))) = moW cI cZ a0 (u2 σ 12 k v) := by
  have e : (upd (fun i => iz (σ 12 i)) k (iz v)) = fun i => iz (u2 σ 12 k v 12 i) := by
    funext q
    by_cases h : q = k
    · subst h; simp [upd, u2]
    · simp [upd, u2, h]
  rw [e]
  rfl
theorem moW_set13 (cI cZ : ClassId) (a0 : Nat) (σ : Nat → Nat → Int) (k : Nat) (v : Int) : (moW cI cZ a0 σ).set 13 (a0 + 13, .inl (cI, 3, .inl (upd (fun i => iz (σ 13 i)) k (iz v)))) = moW cI cZ a0 (u2 σ 13 k v) := by
  have e : (upd (fun i => iz (σ 13 i)) k (iz v)) = fun i => iz (u2 σ 13 k v 13 i) := by
    funext q
    by_cases h : q = k
    · subst h; simp [upd, u2]
    · simp [upd, u2, h]
  rw [e]
  rfl
theorem moW_set14 (cI cZ : ClassId) (a0 : Nat) (σ : Nat → Nat → Int) (k : Nat) (v : Int) : (moW cI cZ a0 σ).set 14 (a0 + 14, .inl (cI, 12, .inl (upd (fun i => iz (σ 14 i)) k (iz v)))) = moW cI cZ a0 (u2 σ 14 k v) := by
  have e : (upd (fun i => iz (σ 14 i)) k (iz v)) = fun i => iz (u2 σ 14 k v 14 i) := by
    funext q
    by_cases h : q = k
    · subst h; simp [upd, u2]
    · simp [upd, u2, h]
  rw [e]
  rfl
theorem moW_set15 (cI cZ : ClassId) (a0 : Nat) (σ : Nat → Nat → Int) (k : Nat) (v : Int) : (moW cI cZ a0 σ).set 15 (a0 + 15, .inl (cI, 6, .inl (upd (fun i => iz (σ 15 i)) k (iz v)))) = moW cI cZ a0 (u2 σ 15 k v) := by
  have e : (upd (fun i => iz (σ 15 i)) k (iz v)) = fun i => iz (u2 σ 15 k v 15 i) := by
    funext q
    by_cases h : q = k
    · subst h; simp [upd, u2]
    · simp [upd, u2, h]
  rw [e]
  rfl
theorem moW_set16 (cI cZ : ClassId) (a0 : Nat) (σ : Nat → Nat → Int) (k : Nat) (v : Int) : (moW cI cZ a0 σ).set 16 (a0 + 16, .inl (cI, 6, .inl (upd (fun i => iz (σ 16 i)) k (iz v)))) = moW cI cZ a0 (u2 σ 16 k v) := by
  have e : (upd (fun i => iz (σ 16 i)) k (iz v)) = fun i => iz (u2 σ 16 k v 16 i) := by
    funext q
    by_cases h : q = k
    · subst h; simp [upd, u2]
    · simp [upd, u2, h]
  rw [e]
  rfl
theorem moF_set2 (a0 : Nat) (σ : Nat → Nat → Int) (v : Int) : (moF a0 σ).set 2 (.int (iz v)) = moF a0 (u2 σ 0 2 v) := rfl
theorem moW_fld2 (cI cZ : ClassId) (a0 : Nat) (σ : Nat → Nat → Int) (v : Int) : (moW cI cZ a0 σ).set 0 (a0, .inr (13, (moF a0 σ).set 2 (.int (iz v)))) = moW cI cZ a0 (u2 σ 0 2 v) := rfl
theorem moF_set3 (a0 : Nat) (σ : Nat → Nat → Int) (v : Int) : (moF a0 σ).set 3 (.int (iz v)) = moF a0 (u2 σ 0 3 v) := rfl
theorem moW_fld3 (cI cZ : ClassId) (a0 : Nat) (σ : Nat → Nat → Int) (v : Int) : (moW cI cZ a0 σ).set 0 (a0, .inr (13, (moF a0 σ).set 3 (.int (iz v)))) = moW cI cZ a0 (u2 σ 0 3 v) := rfl
theorem moF_set4 (a0 : Nat) (σ : Nat → Nat → Int) (v : Int) : (moF a0 σ).set 4 (.int (iz v)) = moF a0 (u2 σ 0 4 v) := rfl
theorem moW_fld4 (cI cZ : ClassId) (a0 : Nat) (σ : Nat → Nat → Int) (v : Int) : (moW cI cZ a0 σ).set 0 (a0, .inr (13, (moF a0 σ).set 4 (.int (iz v)))) = moW cI cZ a0 (u2 σ 0 4 v) := rfl
theorem moF_set5 (a0 : Nat) (σ : Nat → Nat → Int) (v : Int) : (moF a0 σ).set 5 (.int (iz v)) = moF a0 (u2 σ 0 5 v) := rfl
theorem moW_fld5 (cI cZ : ClassId) (a0 : Nat) (σ : Nat → Nat → Int) (v : Int) : (moW cI cZ a0 σ).set 0 (a0, .inr (13, (moF a0 σ).set 5 (.int (iz v)))) = moW cI cZ a0 (u2 σ 0 5 v) := rfl
theorem moF_set6 (a0 : Nat) (σ : Nat → Nat → Int) (v : Int) : (moF a0 σ).set 6 (.int (iz v)) = moF a0 (u2 σ 0 6 v) := rfl
theorem moW_fld6 (cI cZ : ClassId) (a0 : Nat) (σ : Nat → Nat → Int) (v : Int) : (moW cI cZ a0 σ).set 0 (a0, .inr (13, (moF a0 σ).set 6 (.int (iz v)))) = moW cI cZ a0 (u2 σ 0 6 v) := rfl
theorem moF_set7 (a0 : Nat) (σ : Nat → Nat → Int) (v : Int) : (moF a0 σ).set 7 (.int (iz v)) = moF a0 (u2 σ 0 7 v) := rfl
theorem moW_fld7 (cI cZ : ClassId) (a0 : Nat) (σ : Nat → Nat → Int) (v : Int) : (moW cI cZ a0 σ).set 0 (a0, .inr (13, (moF a0 σ).set 7 (.int (iz v)))) = moW cI cZ a0 (u2 σ 0 7 v) := rfl
theorem moF_set8 (a0 : Nat) (σ : Nat → Nat → Int) (v : Int) : (moF a0 σ).set 8 (.int (iz v)) = moF a0 (u2 σ 0 8 v) := rfl
theorem moW_fld8 (cI cZ : ClassId) (a0 : Nat) (σ : Nat → Nat → Int) (v : Int) : (moW cI cZ a0 σ).set 0 (a0, .inr (13, (moF a0 σ).set 8 (.int (iz v)))) = moW cI cZ a0 (u2 σ 0 8 v) := rfl
theorem moF_set9 (a0 : Nat) (σ : Nat → Nat → Int) (v : Int) : (moF a0 σ).set 9 (.int (iz v)) = moF a0 (u2 σ 0 9 v) := rfl
theorem moW_fld9 (cI cZ : ClassId) (a0 : Nat) (σ : Nat → Nat → Int) (v : Int) : (moW cI cZ a0 σ).set 0 (a0, .inr (13, (moF a0 σ).set 9 (.int (iz v)))) = moW cI cZ a0 (u2 σ 0 9 v) := rfl
theorem moF_set10 (a0 : Nat) (σ : Nat → Nat → Int) (v : Int) : (moF a0 σ).set 10 (.int (iz v)) = moF a0 (u2 σ 0 10 v) := rfl
theorem moW_fld10 (cI cZ : ClassId) (a0 : Nat) (σ : Nat → Nat → Int) (v : Int) : (moW cI cZ a0 σ).set 0 (a0, .inr (13, (moF a0 σ).set 10 (.int (iz v)))) = moW cI cZ a0 (u2 σ 0 10 v) := rfl
theorem moF_set17 (a0 : Nat) (σ : Nat → Nat → Int) (v : Int) : (moF a0 σ).set 17 (.int (iz v)) = moF a0 (u2 σ 0 17 v) := rfl
theorem moW_fld17 (cI cZ : ClassId) (a0 : Nat) (σ : Nat → Nat → Int) (v : Int) : (moW cI cZ a0 σ).set 0 (a0, .inr (13, (moF a0 σ).set 17 (.int (iz v)))) = moW cI cZ a0 (u2 σ 0 17 v) := rfl
theorem moF_set18 (a0 : Nat) (σ : Nat → Nat → Int) (v : Int) : (moF a0 σ).set 18 (.int (iz v)) = moF a0 (u2 σ 0 18 v) := rfl
theorem moW_fld18 (cI cZ : ClassId) (a0 : Nat) (σ : Nat → Nat → Int) (v : Int) : (moW cI cZ a0 σ).set 0 (a0, .inr (13, (moF a0 σ).set 18 (.int (iz v)))) = moW cI cZ a0 (u2 σ 0 18 v) := rfl
theorem moF_set27 (a0 : Nat) (σ : Nat → Nat → Int) (v : Int) : (moF a0 σ).set 27 (.int (iz v)) = moF a0 (u2 σ 0 27 v) := rfl
theorem moW_fld27 (cI cZ : ClassId) (a0 : Nat) (σ : Nat → Nat → Int) (v : Int) : (moW cI cZ a0 σ).set 0 (a0, .inr (13, (moF a0 σ).set 27 (.int (iz v)))) = moW cI cZ a0 (u2 σ 0 27 v) := rfl
/-- the heap holds the reference with σ, and is else as H0 -/
def moI (D : va_G) (cI cZ : ClassId) (a0 : Nat) (H0 : Heap) (σ : Nat → Nat → Int) (H : Heap) : Prop := va_P D vwCl (moW cI cZ a0 σ) H ∧ H.size = H0.size ∧ ∀ q : Nat, ¬ (a0 ≤ q ∧ q < a0 + 17) → H[q]? = H0[q]?
abbrev moR (a0 : Nat) : Nat → Prop := fun q => a0 ≤ q ∧ q < a0 + 17
abbrev moT (cI cZ : ClassId) : List (ClassId × FieldType) := [(cI, .int), (cZ, .boolean)]
abbrev moQ (D : va_G) (cI cZ : ClassId) (a0 : Nat) (r : Option Value) (σ' : Nat → Nat → Int) : Array Value → State → Outcome → State → Prop := fun _ st oc t => oc = .returned r ∧ moI D cI cZ a0 st.heap σ' t.heap
/-- a method of the reference: from σ with these arguments it answers r and leaves σ' -/
def moM (l : Launch) (D : va_G) (cI cZ : ClassId) (a0 : Nat) (y : MethodName) (cc : ByteArray) (mL : Nat) (ret : Option FieldType) (fr lo : Nat) (as : List Value) (σ : Nat → Nat → Int) (r : Option Value) (σ' : Nat → Nat → Int) : Prop :=
  Met l y (.code y cc mL ret :: hk_tb) { frames := fr, cells := 0, slots := 0, locals := lo } (va_Pc as (fun U => va_P D vwCl (moW cI cZ a0 σ) U.heap ∧ va_K D vwCl (moT cI cZ) U)) (moQ D cI cZ a0 r σ') 0 0 (moR a0)
section MO
variable {p : Program} {l : Launch} {e : Env} {R : Room} {s : State} {m : MethodId} {args : Array Value} {below : List Frame} {meth : Method} {c : Code} {nL : Nat} {Q : State → Prop} {pc : Nat} {loc : List (Nat × Value)} {stk : List Value} {cc : ByteArray} {D : va_G} {cI cZ : ClassId} {a0 : Nat} {H0 : Heap} {σ : Nat → Nat → Int}

theorem mo_geta (C : CallFix p m c cc nL s args hk_tb RX12) (K : va_K D vwCl (moT cI cZ) s) {index : Nat} (f j : Nat) (hf : f < 28) (hv : (moF a0 σ)[f]? = some (.ref (a0 + j))) (hw : ∀ w ∈ u_ws RX12 TX12 28, w ∈ hk_tb) (w : Cond.fieldLink RX12 index "HookUpsModel" (TX12 f).2.1 (TX12 f).2.2.1 ∈ hk_tb) (hr : (TX12 f).1 = "HookUpsModel") (d : decode cc pc = .ok (.getfield index, 3)) (k : hvV p l e R s m args below meth c nL (moR a0) 0 0 Q (moI D cI cZ a0 H0 σ) (pc + 3) loc (.ref (a0 + j) :: stk)) : hvV p l e R s m args below meth c nL (moR a0) 0 0 Q (moI D cI cZ a0 H0 σ) pc loc (.ref a0 :: stk) := fun H locs ls h1 h2 h3 => va_get (D := D) (cl := vwCl) (ws := moW cI cZ a0 σ) (tys := moT cI cZ) (ci := 13) (C := RX12) (T := TX12) (N := 28) C.1 C.2.1 C.2.2.2.2 hw C.2.2.2.1 K h1.1 0 rfl rfl f hf (C.2.2.2.2 _ w) (fun _ h9 => by rw [hr] at h9; exact h9) hv d (k H locs ls h1 h2 h3)
theorem mo_geti (C : CallFix p m c cc nL s args hk_tb RX12) (K : va_K D vwCl (moT cI cZ) s) {index : Nat} {x : Int} (f : Nat) (hf : f < 28) (hv : (moF a0 σ)[f]? = some (.int (iz x))) (hw : ∀ w ∈ u_ws RX12 TX12 28, w ∈ hk_tb) (w : Cond.fieldLink RX12 index "HookUpsModel" (TX12 f).2.1 (TX12 f).2.2.1 ∈ hk_tb) (hr : (TX12 f).1 = "HookUpsModel") (d : decode cc pc = .ok (.getfield index, 3)) (k : hvV p l e R s m args below meth c nL (moR a0) 0 0 Q (moI D cI cZ a0 H0 σ) (pc + 3) loc (.int (iz x) :: stk)) : hvV p l e R s m args below meth c nL (moR a0) 0 0 Q (moI D cI cZ a0 H0 σ) pc loc (.ref a0 :: stk) := fun H locs ls h1 h2 h3 => va_get (D := D) (cl := vwCl) (ws := moW cI cZ a0 σ) (tys := moT cI cZ) (ci := 13) (C := RX12) (T := TX12) (N := 28) C.1 C.2.1 C.2.2.2.2 hw C.2.2.2.1 K h1.1 0 rfl rfl f hf (C.2.2.2.2 _ w) (fun _ h9 => by rw [hr] at h9; exact h9) hv d (k H locs ls h1 h2 h3)
theorem mo_puti (C : CallFix p m c cc nL s args hk_tb RX12) (K : va_K D vwCl (moT cI cZ) s) {index : Nat} {x : Int} {σ2 : Nat → Nat → Int} (f : Nat) (hf : f < 28) (hset : (moW cI cZ a0 σ).set 0 (a0, .inr (13, (moF a0 σ).set f (.int (iz x)))) = moW cI cZ a0 σ2) (hw : ∀ w ∈ u_ws RX12 TX12 28, w ∈ hk_tb) (w : Cond.fieldLink RX12 index "HookUpsModel" (TX12 f).2.1 (TX12 f).2.2.1 ∈ hk_tb) (hr : (TX12 f).1 = "HookUpsModel") (hfin : (TX12 f).2.2.2 = false) {ty : FieldType} (hd : parseFieldDescriptor (TX12 f).2.2.1 = some ty) (hn : narrow ty (.int (iz x)) = .int (iz x)) (hfit : fits ty (.int (iz x)) = true) (d : decode cc pc = .ok (.putfield index, 3)) (k : hvV p l e R s m args below meth c nL (moR a0) 0 0 Q (moI D cI cZ a0 H0 σ2) (pc + 3) loc stk) : hvV p l e R s m args below meth c nL (moR a0) 0 0 Q (moI D cI cZ a0 H0 σ) pc loc (.int (iz x) :: .ref a0 :: stk) := by
  intro H locs ls h1 h2 h3
  have hap := va_apart (own := RX12) C.2.2.2.2 hw tyX12 tyX12_ok nmX12 K (ci := 13) rfl
  obtain ⟨hP, hsz, hoth⟩ := h1
  obtain ⟨r, h1', cell, q1, q2, q3, q4⟩ := hP 0 _ rfl
  have hr' : r = (RX12, TX12, 28) := Option.some.inj (h1'.symm.trans rfl)
  subst hr'
  obtain ⟨hS, hfc, kC, hkC, hkind⟩ := K.1 13 _ rfl
  obtain ⟨cf, kf, fi, fd, hi, hsl⟩ := hS f hf
  have hlay := C.2.2.2.2 _ (hw _ (u_in_lay hf))
  unfold u_lay at hlay
  rw [if_neg (by rw [hfin]; decide)] at hlay
  have hst := (u_facts hfc hkC (u_lays C.2.2.2.2 hw hf) hi).1
  have h6 := u_store hfc hkC hkind hlay hi hd hn hfit
  refine W.putK C.1 C.2.1 (f := fd) ⟨C.2.2.2.1, C.2.2.2.2 _ w, ⟨_, _, _, by rw [hr] at hi; exact hi⟩, hst⟩ (by rw [q2]; exact h6) q1 q3 (by rw [hsl]; exact k2_hasslot (q4 f hf)) rfl rfl d fun H' e1 e2 e3 => ?_
  rw [hsl] at e1 ⊢
  refine k H' _ ls ⟨?_, by rw [e2]; exact hsz, fun q hq => ?_⟩ (fun x hx => ?_) h3
  · rw [← hset]
    exact hP.set (moW_D cI cZ a0 σ) (show (moW cI cZ a0 σ)[0]? = some (a0, .inr (13, moF a0 σ)) from rfl) ⟨_, rfl, t_OB.to (V := updV (vp_V (moF a0 σ)) f (.int (iz x))) ⟨_, e1, q2, q3, t_set q4 hap hf _⟩ (fun j _ => vp_updV_set hf _ j)⟩ e3
  · rw [e3 q (fun e => hq (by have e' : (q : Nat) = a0 := e; omega))]; exact hoth q hq
  · rcases List.mem_append.mp hx with h | h
    · exact h2 x h
    · rw [List.mem_singleton.mp h]; exact ⟨Nat.le_refl _, by show a0 < a0 + 17; omega⟩
theorem mo_iald (C : CallFix p m c cc nL s args hk_tb RX12) (K : va_K D vwCl (moT cI cZ) s) (j N i : Nat) {z : Int} (hj : (moW cI cZ a0 σ)[j]? = some (a0 + j, .inl (cI, N, .inl (fun q => iz (σ j q))))) (hz : z = (i : Int)) (hi : i < N) (hN : N ≤ 2147483647) (d : decode cc pc = .ok (.iaload, 1)) (k : hvV p l e R s m args below meth c nL (moR a0) 0 0 Q (moI D cI cZ a0 H0 σ) (pc + 1) loc (.int (iz (σ j i)) :: stk)) : hvV p l e R s m args below meth c nL (moR a0) 0 0 Q (moI D cI cZ a0 H0 σ) pc loc (.int (iz z) :: .ref (a0 + j) :: stk) := by
  subst hz
  intro H locs ls h1 h2 h3
  refine va_iald (cl := vwCl) (ws := moW cI cZ a0 σ) C.1 C.2.1 K h1.1 j 0 hj rfl (iz_in (by omega) (by omega) hN) d ?_
  rw [iz_clamp (by omega) (by omega)]
  exact k H locs ls h1 h2 h3
theorem mo_zald (C : CallFix p m c cc nL s args hk_tb RX12) (K : va_K D vwCl (moT cI cZ) s) (j N i : Nat) {z : Int} (hj : (moW cI cZ a0 σ)[j]? = some (a0 + j, .inl (cZ, N, .inl (fun q => iz (σ j q))))) (hz : z = (i : Int)) (hi : i < N) (hN : N ≤ 2147483647) (d : decode cc pc = .ok (.baload, 1)) (k : hvV p l e R s m args below meth c nL (moR a0) 0 0 Q (moI D cI cZ a0 H0 σ) (pc + 1) loc (.int (iz (σ j i)) :: stk)) : hvV p l e R s m args below meth c nL (moR a0) 0 0 Q (moI D cI cZ a0 H0 σ) pc loc (.int (iz z) :: .ref (a0 + j) :: stk) := by
  subst hz
  intro H locs ls h1 h2 h3
  refine va_zald (cl := vwCl) (ws := moW cI cZ a0 σ) C.1 C.2.1 K h1.1 j 1 hj rfl (iz_in (by omega) (by omega) hN) d ?_
  rw [iz_clamp (by omega) (by omega)]
  exact k H locs ls h1 h2 h3
theorem mo_iast (C : CallFix p m c cc nL s args hk_tb RX12) (K : va_K D vwCl (moT cI cZ) s) (j N i : Nat) {z x : Int} (hj : (moW cI cZ a0 σ)[j]? = some (a0 + j, .inl (cI, N, .inl (fun q => iz (σ j q))))) (hset : (moW cI cZ a0 σ).set j (a0 + j, .inl (cI, N, .inl (upd (fun q => iz (σ j q)) i (iz x)))) = moW cI cZ a0 (u2 σ j i x)) (hz : z = (i : Int)) (hi : i < N) (hN : N ≤ 2147483647) (d : decode cc pc = .ok (.iastore, 1)) (k : hvV p l e R s m args below meth c nL (moR a0) 0 0 Q (moI D cI cZ a0 H0 (u2 σ j i x)) (pc + 1) loc stk) : hvV p l e R s m args below meth c nL (moR a0) 0 0 Q (moI D cI cZ a0 H0 σ) pc loc (.int (iz x) :: .int (iz z) :: .ref (a0 + j) :: stk) := by
  subst hz
  intro H locs ls h1 h2 h3
  obtain ⟨hP, hsz, hoth⟩ := h1
  have hjl := (moW_ad cI cZ a0 σ hj).2
  have hin : vp_in (iz (i : Int)) N := iz_in (by omega) (by omega) hN
  have hcl : (iz (i : Int)).toNatClampNeg = i := by rw [iz_clamp (by omega) (by omega)]; omega
  refine W.iast C.1 C.2.1 (hP j _ hj) ((K.2 0 _ rfl).1 N (fun q => .int (iz (σ j q)))) (fun q => by cases q) (by show ¬ (iz (i : Int) < 0 ∨ (arrV _ _ _).slots.size ≤ _); rw [arrV_size]; exact hin) rfl rfl d fun H1 e z oq => ?_
  refine k H1 _ ls ⟨?_, by rw [z]; exact hsz, fun q hq => ?_⟩ (fun x hx => ?_) h3
  · rw [← hset]
    refine hP.set (moW_D cI cZ a0 σ) hj ?_ oq
    show H1[a0 + j]? = some (vp_cell _ _)
    rw [e, hcl]
    rw [vp_cell_i, vp_cell_i, arrV_store]
    congr 2
    funext q
    by_cases hq : q = i
    · subst hq
      simp [updV, upd]
    · simp [updV, upd, hq]
  · rw [oq q (fun e => hq (by have e' : (q : Nat) = a0 + j := e; omega))]; exact hoth q hq
  · rcases List.mem_append.mp hx with h | h
    · exact h2 x h
    · rw [List.mem_singleton.mp h]; exact ⟨by show a0 ≤ a0 + j; omega, by show a0 + j < a0 + 17; omega⟩
theorem mo_zast (C : CallFix p m c cc nL s args hk_tb RX12) (K : va_K D vwCl (moT cI cZ) s) (j N i : Nat) {z : Int} (v : Bool) (hj : (moW cI cZ a0 σ)[j]? = some (a0 + j, .inl (cZ, N, .inl (fun q => iz (σ j q))))) (hset : (moW cI cZ a0 σ).set j (a0 + j, .inl (cZ, N, .inl (upd (fun q => iz (σ j q)) i (iz (xb v))))) = moW cI cZ a0 (u2 σ j i (xb v))) (hz : z = (i : Int)) (hi : i < N) (hN : N ≤ 2147483647) (d : decode cc pc = .ok (.bastore, 1)) (k : hvV p l e R s m args below meth c nL (moR a0) 0 0 Q (moI D cI cZ a0 H0 (u2 σ j i (xb v))) (pc + 1) loc stk) : hvV p l e R s m args below meth c nL (moR a0) 0 0 Q (moI D cI cZ a0 H0 σ) pc loc (.int (iz (xb v)) :: .int (iz z) :: .ref (a0 + j) :: stk) := by
  subst hz
  intro H locs ls h1 h2 h3
  obtain ⟨hP, hsz, hoth⟩ := h1
  have hjl := (moW_ad cI cZ a0 σ hj).2
  have hin : vp_in (iz (i : Int)) N := iz_in (by omega) (by omega) hN
  have hcl : (iz (i : Int)).toNatClampNeg = i := by rw [iz_clamp (by omega) (by omega)]; omega
  refine W.zast C.1 C.2.1 (hP j _ hj) ((K.2 1 _ rfl).1 N (fun q => .int (iz (σ j q)))) (fun q => by cases q) (by show ¬ (iz (i : Int) < 0 ∨ (arrV _ _ _).slots.size ≤ _); rw [arrV_size]; exact hin) rfl rfl d fun H1 e z oq => ?_
  refine k H1 _ ls ⟨?_, by rw [z]; exact hsz, fun q hq => ?_⟩ (fun x hx => ?_) h3
  · rw [← hset]
    refine hP.set (moW_D cI cZ a0 σ) hj ?_ oq
    show H1[a0 + j]? = some (vp_cell _ _)
    rw [e, hcl]
    rw [vp_cell_i, vp_cell_i, arrV_store]
    congr 2
    funext q
    by_cases hq : q = i
    · subst hq
      cases v
      · simp [updV, upd]; first | rfl | decide
      · simp [updV, upd]; first | rfl | decide
    · simp [updV, upd, hq]
  · rw [oq q (fun e => hq (by have e' : (q : Nat) = a0 + j := e; omega))]; exact hoth q hq
  · rcases List.mem_append.mp hx with h | h
    · exact h2 x h
    · rw [List.mem_singleton.mp h]; exact ⟨by show a0 ≤ a0 + j; omega, by show a0 + j < a0 + 17; omega⟩
theorem mo_iret {Qc : Array Value → State → Outcome → State → Prop} (C : CallFix p m c cc nL s args hk_tb RX12) (hr : meth.sig.returnType = some .int) (hlk : meth.locks = false) {x v : Int} {σ' : Nat → Nat → Int} (hx : x = v) (hs : σ = σ') (d : decode cc pc = .ok (.ireturn, 1)) : hvV p l e R s m args below meth c nL (moR a0) 0 0 (MQ below (moQ D cI cZ a0 (some (.int (iz v))) σ') args s 0 0 (moR a0)) (moI D cI cZ a0 s.heap σ) pc loc [.int (iz x)] := by
  subst hx; subst hs
  intro H locs ls h1 h2 h3
  exact W.iret C.1 C.2.1 hr (fun t ht hW => ⟨rfl, by rw [ht]; exact h1⟩) h2 d hlk
theorem mo_zret {Qc : Array Value → State → Outcome → State → Prop} (C : CallFix p m c cc nL s args hk_tb RX12) (hr : meth.sig.returnType = some .boolean) (hlk : meth.locks = false) {x : Int} {v : Bool} {σ' : Nat → Nat → Int} (hx : x = xb v) (hs : σ = σ') (d : decode cc pc = .ok (.ireturn, 1)) : hvV p l e R s m args below meth c nL (moR a0) 0 0 (MQ below (moQ D cI cZ a0 (some (.int (iz (xb v)))) σ') args s 0 0 (moR a0)) (moI D cI cZ a0 s.heap σ) pc loc [.int (iz x)] := by
  subst hx; subst hs
  intro H locs ls h1 h2 h3
  exact W.zret C.1 C.2.1 hr (by cases v <;> rfl) (fun t ht hW => ⟨rfl, by rw [ht]; exact h1⟩) h2 d hlk
theorem mo_vret {Qc : Array Value → State → Outcome → State → Prop} (C : CallFix p m c cc nL s args hk_tb RX12) (hr : meth.sig.returnType = none) (hlk : meth.locks = false) {σ' : Nat → Nat → Int} (hs : σ = σ') (d : decode cc pc = .ok (.return_, 1)) : hvV p l e R s m args below meth c nL (moR a0) 0 0 (MQ below (moQ D cI cZ a0 none σ') args s 0 0 (moR a0)) (moI D cI cZ a0 s.heap σ) pc loc [] := by
  subst hs
  intro H locs ls h1 h2 h3
  exact W.vret C.1 C.2.1 hr (fun t ht hW => ⟨rfl, by rw [ht]; exact h1⟩) h2 d hlk
theorem mo_lret {Qc : Array Value → State → Outcome → State → Prop} (C : CallFix p m c cc nL s args hk_tb RX12) (hr : meth.sig.returnType = some .long) (hlk : meth.locks = false) {x v : Int64} {σ' : Nat → Nat → Int} (hx : x = v) (hs : σ = σ') (d : decode cc pc = .ok (.lreturn, 1)) : hvV p l e R s m args below meth c nL (moR a0) 0 0 (MQ below (moQ D cI cZ a0 (some (.long v)) σ') args s 0 0 (moR a0)) (moI D cI cZ a0 s.heap σ) pc loc [.long x] := by
  subst hx; subst hs
  intro H locs ls h1 h2 h3
  exact W.lret C.1 C.2.1 hr (fun t ht hW => ⟨rfl, by rw [ht]; exact h1⟩) h2 d hlk
theorem mo_start {y : MethodName} {mL fr lo : Nat} {ret : Option FieldType} {as : List Value} {σ' : Nat → Nat → Int} {r : Option Value} (hy : plainName y.cls = true) (hc : y.cls = RX12) (hn : (lg_sl as).length ≤ mL)
    (h : ∀ p e s m args below meth c, CallFix p m c cc mL s args hk_tb RX12 → va_K D vwCl (moT cI cZ) s → meth.sig.returnType = ret → meth.locks = false →
      hvV p l e { frames := fr, cells := 0, slots := 0, locals := lo } s m args below meth c mL (moR a0) 0 0 (MQ below (moQ D cI cZ a0 r σ') args s 0 0 (moR a0)) (moI D cI cZ a0 s.heap σ) 0 (lv_args 0 as) []) : moM l D cI cZ a0 y cc mL ret fr lo as σ r σ' := by
  refine Met.ofW (cc := cc) (maxL := mL) (ret := ret) hy rfl ?_
  intro p e s m args below meth c s₁ B hml hv
  obtain ⟨rfl, hP, hK⟩ := hv
  have hts := atoms_spec (ws := .code y cc mL ret :: hk_tb) B.pre
  have hown : s.vm.findClass y.cls = some m.cls := findClass_of_methodNamed B.named
  rw [hc] at hown
  have hl := lv_entry as (n := mL) hn
  rw [lg_entry_eq]
  exact h p e s m as.toArray below meth c ⟨B.exec, B.bytes, hml, hown, fun w hw => hts w (List.mem_cons_of_mem _ hw)⟩ hK B.returns B.notSynchronized s.heap [] _ ⟨hP, rfl, fun _ _ => rfl⟩ (fun x hx => absurd hx List.not_mem_nil) hl
/-- what a call of a method of the reference needs of the tables -/
def moCk (y : MethodName) (bytes : ByteArray) (maxL : Nat) (ret : Option FieldType) (idx n : Nat) (stat : Bool) : Prop :=
  Cond.code y bytes maxL ret ∈ hk_tb ∧ Cond.methodLink RX12 idx y ∈ hk_tb ∧ Cond.initialized RX12 ∈ hk_tb ∧ y.cls = RX12 ∧ (parseMethodDescriptor y.desc).map (fun d => d.parameters.length) = some n ∧ (match stat with
    | true => Cond.static y ∈ hk_tb
    | false => Cond.instanceMethod y ∈ hk_tb ∧ Cond.selects RX12 y y ∈ hk_tb)
theorem mo_run {y : MethodName} {bytes : ByteArray} {maxL : Nat} {ret : Option FieldType} {fr lo idx : Nat} {As rest : List Value} {ls : Array Slot} {H : Heap} {locs : List Loc} {σ2 : Nat → Nat → Int} {r : Option Value} (C : CallFix p m c cc nL s args hk_tb RX12) (K : va_K D vwCl (moT cI cZ) s) (hM : moM l D cI cZ a0 y bytes maxL ret fr lo (.ref a0 :: As) σ r σ2) (ck : moCk y bytes maxL ret idx As.length false) (hR : fr + 1 ≤ R.frames ∧ 8 + (maxL + 11) + lo ≤ R.locals) (hs : stk = As.reverse ++ .ref a0 :: rest) (hW : (rest.map fun v => v.category).sum ≤ 8) (d : decode cc pc = .ok (.invokevirtual idx, 3)) (hP : va_P D vwCl (moW cI cZ a0 σ) H) (hl : lv_has ls nL loc) :
    va_Run p l e R s m args below meth c H locs 0 0 0 0 (F0 m pc ls stk) rest (moQ D cI cZ a0 r σ2 (Value.ref a0 :: As).toArray) (moR a0) := by
  obtain ⟨k1, k2, k3, k4, k5, k6, k7⟩ := ck
  refine va_runV (Ts := hk_tb) (As := As) (b := a0) (rest := rest) C hM (C := RX12) (n := As.length) ⟨callB_of As.length C.2.2.2.2 (hk_goodIn k1) rfl rfl rfl (by rw [k4]; exact C.2.2.2.2 _ k3) (C.2.2.2.2 _ k2) ⟨by rw [k4]; decide, by rw [k4]; decide, k5⟩ hR, C.2.2.2.2 _ k6, C.2.2.2.2 _ k7⟩ ⟨fun a U g mk q => ⟨q.1, q.2.1, va_K.moved (u := U) (U := U.calling g mk a) (Vm.Alike.refl U.vm) q.2.2⟩, va_recv K hP (ci := 13) (q0 := 0) rfl rfl, fun U hU hW => ⟨rfl, by rw [hU]; exact hP, va_K.moved hW.alike K⟩⟩ rfl rfl hl.1 hs (lv_room hW) d ⟨Nat.zero_le _, Nat.zero_le _⟩
theorem mo_runS {y : MethodName} {bytes : ByteArray} {maxL : Nat} {ret : Option FieldType} {fr lo idx : Nat} {As rest : List Value} {ls : Array Slot} {H : Heap} {locs : List Loc} {σ2 : Nat → Nat → Int} {r : Option Value} (C : CallFix p m c cc nL s args hk_tb RX12) (K : va_K D vwCl (moT cI cZ) s) (hM : moM l D cI cZ a0 y bytes maxL ret fr lo As σ r σ2) (ck : moCk y bytes maxL ret idx As.length true) (hR : fr + 1 ≤ R.frames ∧ 8 + (maxL + 11) + lo ≤ R.locals) (hs : stk = As.reverse ++ rest) (hW : (rest.map fun v => v.category).sum ≤ 8) (d : decode cc pc = .ok (.invokestatic idx, 3)) (hP : va_P D vwCl (moW cI cZ a0 σ) H) (hl : lv_has ls nL loc) :
    va_Run p l e R s m args below meth c H locs 0 0 0 0 (F0 m pc ls stk) rest (moQ D cI cZ a0 r σ2 As.toArray) (moR a0) := by
  obtain ⟨k1, k2, k3, k4, k5, k6⟩ := ck
  refine va_runS (Ts := hk_tb) (As := As) (rest := rest) C hM (n := As.length) ⟨callB_of As.length C.2.2.2.2 (hk_goodIn k1) rfl rfl rfl (by rw [k4]; exact C.2.2.2.2 _ k3) (C.2.2.2.2 _ k2) ⟨by rw [k4]; decide, by rw [k4]; decide, k5⟩ hR, C.2.2.2.2 _ k6⟩ ⟨fun a U g mk q => ⟨q.1, q.2.1, va_K.moved (u := U) (U := U.calling g mk a) (Vm.Alike.refl U.vm) q.2.2⟩, fun U hU hW => ⟨rfl, by rw [hU]; exact hP, va_K.moved hW.alike K⟩⟩ rfl rfl hl.1 hs (lv_room hW) d ⟨Nat.zero_le _, Nat.zero_le _⟩
theorem mo_go {σ2 : Nat → Nat → Int} {r : Option Value} {rest : List Value} {a : Array Value} (hr : ∀ H locs ls, moI D cI cZ a0 H0 σ H → lv_has ls nL loc → va_Run p l e R s m args below meth c H locs 0 0 0 0 (F0 m pc ls stk) rest (moQ D cI cZ a0 r σ2 a) (moR a0)) (k : hvV p l e R s m args below meth c nL (moR a0) 0 0 Q (moI D cI cZ a0 H0 σ2) (pc + 3) loc (r.toList ++ rest)) : hvV p l e R s m args below meth c nL (moR a0) 0 0 Q (moI D cI cZ a0 H0 σ) pc loc stk := by
  intro H locs ls h1 h2 h3 T hT X
  obtain ⟨v, st₀, t, T', L, h0, X', hL, e1, e2, ⟨hv, hI⟩, st⟩ := hr H locs ls h1 h3 T hT X
  have hv : v = r := by injection hv
  subst hv
  rw [h0] at hI
  obtain ⟨t2, a1, b1⟩ := k T'.heap (locs ++ L) ls ⟨by rw [e1]; exact hI.1, by rw [e1]; exact hI.2.1.trans h1.2.1, fun q hq => by rw [e1, hI.2.2 q hq]; exact h1.2.2 q hq⟩ (fun x hx => (List.mem_append.mp hx).elim (h2 x) (hL x)) h3 T' rfl X'
  exact ⟨t2, st t2 a1, b1⟩
theorem mo_call {y : MethodName} {bytes : ByteArray} {maxL : Nat} {ret : Option FieldType} {fr lo idx : Nat} {σ2 : Nat → Nat → Int} {r : Option Value} (As rest : List Value) (C : CallFix p m c cc nL s args hk_tb RX12) (K : va_K D vwCl (moT cI cZ) s) (hM : moM l D cI cZ a0 y bytes maxL ret fr lo (.ref a0 :: As) σ r σ2) (ck : moCk y bytes maxL ret idx As.length false) (hR : fr + 1 ≤ R.frames ∧ 8 + (maxL + 11) + lo ≤ R.locals) (hs : stk = As.reverse ++ .ref a0 :: rest) (hW : (rest.map fun v => v.category).sum ≤ 8) (d : decode cc pc = .ok (.invokevirtual idx, 3)) (k : hvV p l e R s m args below meth c nL (moR a0) 0 0 Q (moI D cI cZ a0 H0 σ2) (pc + 3) loc (r.toList ++ rest)) : hvV p l e R s m args below meth c nL (moR a0) 0 0 Q (moI D cI cZ a0 H0 σ) pc loc stk := mo_go (fun H locs ls h1 h3 => mo_run C K hM ck hR hs hW d h1.1 h3) k
theorem mo_callS {y : MethodName} {bytes : ByteArray} {maxL : Nat} {ret : Option FieldType} {fr lo idx : Nat} {σ2 : Nat → Nat → Int} {r : Option Value} (As rest : List Value) (C : CallFix p m c cc nL s args hk_tb RX12) (K : va_K D vwCl (moT cI cZ) s) (hM : moM l D cI cZ a0 y bytes maxL ret fr lo As σ r σ2) (ck : moCk y bytes maxL ret idx As.length true) (hR : fr + 1 ≤ R.frames ∧ 8 + (maxL + 11) + lo ≤ R.locals) (hs : stk = As.reverse ++ rest) (hW : (rest.map fun v => v.category).sum ≤ 8) (d : decode cc pc = .ok (.invokestatic idx, 3)) (k : hvV p l e R s m args below meth c nL (moR a0) 0 0 Q (moI D cI cZ a0 H0 σ2) (pc + 3) loc (r.toList ++ rest)) : hvV p l e R s m args below meth c nL (moR a0) 0 0 Q (moI D cI cZ a0 H0 σ) pc loc stk := mo_go (fun H locs ls h1 h3 => mo_runS C K hM ck hR hs hW d h1.1 h3) k
end MO
