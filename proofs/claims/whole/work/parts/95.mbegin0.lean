/-! the reference at its beginning -/
def A00 : Nat → Int := ua (ua (ua (ua (ua (ua (ua (fun _ => (0 : Int)) 9 (-1)) 12 (-1)) 13 (1)) 20 (1)) 22 (1)) 24 (1)) 26 (1)
def s00 (j : Nat) : Nat → Int := if j = 1 then A00 else fun _ => 0
theorem A00_0 {i : Nat} (h : i ≠ 9 ∧ i ≠ 12 ∧ i ≠ 13 ∧ i ≠ 20 ∧ i ≠ 22 ∧ i ≠ 24 ∧ i ≠ 26) : A00 i = 0 := by
  unfold A00
  rw [ua_ne _ _ (by omega), ua_ne _ _ (by omega), ua_ne _ _ (by omega), ua_ne _ _ (by omega), ua_ne _ _ (by omega), ua_ne _ _ (by omega), ua_ne _ _ (by omega)]
theorem A00_in (i : Nat) : inI (A00 i) := by
  unfold A00
  exact in_ua (in_ua (in_ua (in_ua (in_ua (in_ua (in_ua (fun _ => by omega) (by omega)) (by omega)) (by omega)) (by omega)) (by omega)) (by omega)) (by omega) i
theorem iv_00 : Iv9 A00 := by
  have z : ∀ i, i ≠ 9 ∧ i ≠ 12 ∧ i ≠ 13 ∧ i ≠ 20 ∧ i ≠ 22 ∧ i ≠ 24 ∧ i ≠ 26 → A00 i = 0 := fun i h => A00_0 h
  have a9 : A00 9 = -1 := rfl
  have a13 : A00 13 = 1 := rfl
  have c0 := z 0 (by decide)
  have c1 := z 1 (by decide)
  have c2 := z 2 (by decide)
  have c3 := z 3 (by decide)
  have c4 := z 4 (by decide)
  have c5 := z 5 (by decide)
  have c6 := z 6 (by decide)
  have c7 := z 7 (by decide)
  have c8 := z 8 (by decide)
  have c10 := z 10 (by decide)
  refine ⟨?_, fun k h => ?_, fun k h => ?_, fun k h => ?_, fun k h => ?_, fun k h => ?_, fun k h => ?_, fun k h => ?_, fun w hw => ?_, fun w hw k h => ?_⟩
  · show (0 ≤ A00 0 ∧ A00 0 ≤ 8) ∧ _
    omega
  · omega
  · omega
  · omega
  · omega
  · omega
  · omega
  · omega
  · have := z (14 + w) (by omega)
    refine ⟨by omega, fun k h => by omega⟩
  · have := z (14 + w) (by omega)
    omega
theorem ms_00 : Ms9 s00 := by
  refine ⟨fun j i => ?_, iv_00, fun k _ hne => absurd rfl hne, rfl, fun j _ => ⟨Int.le_refl 0, (by decide : (0 : Int) ≤ 11)⟩⟩
  unfold s00
  split
  · exact A00_in i
  · show inI 0
    omega
theorem zc_va {D : va_G} {w : zcW} {H : Heap} {W : va_W} (h : zc_P D w H) (g : ∀ (k : Nat) (q : Nat × va_E), W[k]? = some q → w q.1 = some q.2) : va_P D vwCl W H := fun k q hq => h q.1 q.2 (g k q hq)
