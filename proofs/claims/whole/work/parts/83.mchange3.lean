/-! the answers of change, miles and string, class against reference -/
theorem nh9_23 {A : Nat → Int} (hc : cn A) : nh9 A 23 = (A 4).toNat := by unfold nh9; split <;> omega
theorem change_eq {σ τ : Nat → Nat → Int} {A : Nat → Int} (hA1 : σ 1 = A) (hσ : rg σ) (hc : cn A) (hwi : wi A) (hh : hi A) (hs : si A) (h70 : σ 7 0 = 0) (hW0 : ∀ j, j < 7 → 0 ≤ σ 9 j ∧ σ 9 j ≤ 11) {d t what : Int} (hd : 0 ≤ d ∧ d ≤ 199) (ht : 0 ≤ t ∧ t ≤ 47) : (if what = 0 then (cpS A (lyS A (48 * d + t - 1) (τ 31) (τ 32) (τ 33) (τ 34) (τ 35)) (lyS A (48 * d + t) (τ 25) (τ 26) (τ 27) (τ 28) (τ 29)) (zt (τ 37) 13) (zt (τ 38) 13) (s7q (τ 41) 13) (A 1).toNat).1 else if what = 1 then (cpS A (lyS A (48 * d + t - 1) (τ 31) (τ 32) (τ 33) (τ 34) (τ 35)) (lyS A (48 * d + t) (τ 25) (τ 26) (τ 27) (τ 28) (τ 29)) (zt (τ 37) 13) (zt (τ 38) 13) (s7q (τ 41) 13) (A 1).toNat).2.1 else lsV (cpS A (lyS A (48 * d + t - 1) (τ 31) (τ 32) (τ 33) (τ 34) (τ 35)) (lyS A (48 * d + t) (τ 25) (τ 26) (τ 27) (τ 28) (τ 29)) (zt (τ 37) 13) (zt (τ 38) 13) (s7q (τ 41) 13) (A 1).toNat).2.2.1 (cpS A (lyS A (48 * d + t - 1) (τ 31) (τ 32) (τ 33) (τ 34) (τ 35)) (lyS A (48 * d + t) (τ 25) (τ 26) (τ 27) (τ 28) (τ 29)) (zt (τ 37) 13) (zt (τ 38) 13) (s7q (τ 41) 13) (A 1).toNat).2.2.2.1 (cpS A (lyS A (48 * d + t - 1) (τ 31) (τ 32) (τ 33) (τ 34) (τ 35)) (lyS A (48 * d + t) (τ 25) (τ 26) (τ 27) (τ 28) (τ 29)) (zt (τ 37) 13) (zt (τ 38) 13) (s7q (τ 41) 13) (A 1).toNat).2.2.2.2 (τ 39) (τ 40) (τ 43) (τ 42) (A 13).toNat (cpS A (lyS A (48 * d + t - 1) (τ 31) (τ 32) (τ 33) (τ 34) (τ 35)) (lyS A (48 * d + t) (τ 25) (τ 26) (τ 27) (τ 28) (τ 29)) (zt (τ 37) 13) (zt (τ 38) 13) (s7q (τ 41) 13) (A 1).toNat).1 (cpS A (lyS A (48 * d + t - 1) (τ 31) (τ 32) (τ 33) (τ 34) (τ 35)) (lyS A (48 * d + t) (τ 25) (τ 26) (τ 27) (τ 28) (τ 29)) (zt (τ 37) 13) (zt (τ 38) 13) (s7q (τ 41) 13) (A 1).toNat).2.1) = (if what = 0 then plS σ d t 0 17 else if what = 1 then plS σ d t 0 18 else lsR (plS σ d t)) := by
  subst hA1
  have pz := pgL_z hσ hc hwi h70 d t
  have hB : ∀ h, h < 24 → lyS (σ 1) (48 * d + t) (τ 25) (τ 26) (τ 27) (τ 28) (τ 29) h = (pgS σ d t).1 h := by
    intro h q
    rw [lyS_sg hc hwi hh hs hd ht _ _ _ _ _ (S2 := (pgQ σ d t).1) (K2 := (pgQ σ d t).2) (L := pgL σ d t) pz.2 h q]
    unfold pgS sgr
    rw [nh9_23 hc]
  have hA : ∀ h, h < 24 → pgE σ d t h = (if lyS (σ 1) (48 * d + t - 1) (τ 31) (τ 32) (τ 33) (τ 34) (τ 35) h < 0 then 0 else lyS (σ 1) (48 * d + t - 1) (τ 31) (τ 32) (τ 33) (τ 34) (τ 35) h) ∧ lyS (σ 1) (48 * d + t - 1) (τ 31) (τ 32) (τ 33) (τ 34) (τ 35) h < ((2 ^ (σ 1 1).toNat : Nat) : Int) := by
    intro h q
    by_cases c : 0 ≤ pgP d t
    · have e : 48 * d + t - 1 = 48 * (pgP d t / 48) + pgP d t % 48 := by unfold pgP; omega
      have hp : pgP d t ≤ 9599 := by unfold pgP; omega
      have eq : lyS (σ 1) (48 * d + t - 1) (τ 31) (τ 32) (τ 33) (τ 34) (τ 35) h = (pgA σ d t).1 h := by
        rw [e, lyS_sg hc hwi hh hs (by omega) (by omega) _ _ _ _ _ (S2 := σ 5) (K2 := σ 6) (L := σ 7) h70 h q]
        unfold pgA sgr
        rw [nh9_23 hc]
      refine ⟨?_, ?_⟩
      · unfold pgE
        rw [if_pos c, ah9_at _ _ 24 q, eq]
      · rw [eq]
        unfold pgA sgr
        exact sg_w _ _ (fun i qi => mz_1 _ 24 i qi) _ h q
    · have eq : lyS (σ 1) (48 * d + t - 1) (τ 31) (τ 32) (τ 33) (τ 34) (τ 35) h = -1 := by
        unfold lyS
        rw [if_neg (fun z => c (by unfold pgP; omega)), mz_1 _ 24 h q]
      have := Nat.two_pow_pos (σ 1 1).toNat
      refine ⟨?_, by rw [eq]; omega⟩
      unfold pgE
      rw [if_neg c, zt_0 _ 24 h q, eq]; rfl
  have K := ch_eq (A := σ 1) (E := pgE σ d t) (S := (pgS σ d t).1) (W0 := σ 9) (B0 := σ 10) (Y0 := zt (σ 14) 12) (P := τ 37) (Q := τ 38) (R := τ 41) (B1 := τ 39) (B2 := τ 40) (F := τ 43) (ou := τ 42) (O := σ 11) (G := σ 12) (F2 := σ 13) hc hwi (by omega) (fun h q => (hA h q).1) hB (fun h q => (hA h q).2) (fun h q => by
    rw [hB h q]
    unfold pgS sgr
    exact sg_w _ _ (fun i qi => mz_1 _ 24 i qi) _ h q) (fun w hw => zt_0 _ 12 w hw) hW0
  obtain ⟨k1, k2, k3⟩ := K
  rw [k3, k1, k2]
  rfl
