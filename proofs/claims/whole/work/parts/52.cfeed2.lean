theorem sb_mod (x : Int) : sb9 (x % 2 ^ 8) = sb9 x := by
  unfold sb9
  congr 2
  apply Int8.toBitVec_inj.1
  show (Int32.ofInt (x % 2 ^ 8)).toInt8.toBitVec = (Int32.ofInt x).toInt8.toBitVec
  rw [Int32.toBitVec_toInt8, Int32.toBitVec_toInt8]
  show (BitVec.ofInt 32 (x % 2 ^ 8)).signExtend 8 = (BitVec.ofInt 32 x).signExtend 8
  rw [BitVec.signExtend_eq_setWidth_of_le _ (by decide), BitVec.signExtend_eq_setWidth_of_le _ (by decide)]
  apply BitVec.eq_of_toNat_eq
  rw [BitVec.toNat_setWidth, BitVec.toNat_setWidth, BitVec.toNat_ofInt, BitVec.toNat_ofInt]
  omega
theorem fd_v (A : Nat → Int) (a b c d e : Int) (h : 0 ≤ A 10 ∧ A 10 ≤ 480) : ∀ n : Nat, n ≤ 20 → fd A a b c d e n 10 = A 10 + (n : Int) ∧ (∀ j : Nat, j < n → fd A a b c d e n (1760 + (A 10).toNat + j) = fdw a b c d e j / 2 ^ ((24 - 8 * ((j : Int) % 4)) : Int).toNat % 2 ^ 8) ∧ ∀ i : Nat, ¬ i = 10 → (i < 1760 + (A 10).toNat ∨ 1760 + (A 10).toNat + n ≤ i) → fd A a b c d e n i = A i
  | 0, _ => ⟨by simp [fd], fun j hj => absurd hj (Nat.not_lt_zero _), fun i _ _ => rfl⟩
  | n + 1, hn => by
    obtain ⟨h1, h2, h3⟩ := fd_v A a b c d e h n (by omega)
    have hx : (fd A a b c d e n 10).toNat = (A 10).toNat + n := by omega
    refine ⟨?_, ?_, ?_⟩
    · rw [fd, ua_at, h1]; omega
    · intro j hj
      rw [fd, ua_ne _ _ (by omega), hx]
      by_cases q : j = n
      · subst q
        rw [show 1760 + (A 10).toNat + j = 1760 + ((A 10).toNat + j) by omega, ua_at]
      · rw [ua_ne _ _ (by omega)]; exact h2 j (by omega)
    · intro i hi hr
      rw [fd, ua_ne _ _ hi, hx, ua_ne _ _ (by omega)]
      exact h3 i hi (by omega)
