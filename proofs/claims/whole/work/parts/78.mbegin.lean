/-! the class's search and the reference's orders reach the same ends -/
def cl9 (wdb : Nat → Bool) (W : Nat → Int) (x : Nat) : Nat := if wdb (W x).toNat = true then 12 else (W x).toNat
def fP9 (wdb : Nat → Bool) (W P : Nat → Int) (c x : Nat) : Int := if cl9 wdb W x = c ∧ P x = 0 then 1 else 0
def fQ9 (wdb : Nat → Bool) (W P : Nat → Int) (c x : Nat) : Int := if cl9 wdb W x = c ∧ ¬ P x = 0 then 1 else 0
def pV9 (W P : Nat → Int) (v : Int) (x : Nat) : Int := if W x = v ∧ P x = 0 then 1 else 0
def qV9 (W P : Nat → Int) (v : Int) (x : Nat) : Int := if W x = v ∧ ¬ P x = 0 then 1 else 0
/-- how many of a wire are out at t, of the first k -/
def gn9 (W P O G : Nat → Int) (v t : Int) (k : Nat) : Int := su9 (fun j => if (W (O j).toNat = v ∧ P (O j).toNat = 0) ∧ G j + 2 ≤ t then 1 else 0) k
theorem su9_up {f : Nat → Int} (h : ∀ i, 0 ≤ f i) (k : Nat) : ∀ m : Nat, su9 f k ≤ su9 f (k + m)
  | 0 => Int.le_refl _
  | m + 1 => by
    have := su9_up h k m
    have := h (k + m)
    show _ ≤ su9 f (k + m) + f (k + m)
    omega
theorem gn9_0 {W P O G : Nat → Int} {v t : Int} (k : Nat) : 0 ≤ gn9 W P O G v t k := (su9_le k (fun i _ => by split <;> omega)).2
theorem gn9_le {W P O G : Nat → Int} {v t : Int} (k : Nat) : gn9 W P O G v t k ≤ su9 (fun j => pV9 W P v (O j).toNat) k := su9_mono k (fun j _ => by
  unfold pV9
  by_cases c : W (O j).toNat = v ∧ P (O j).toNat = 0
  · rw [if_pos c]; split <;> omega
  · rw [if_neg c, if_neg (fun z => c z.1)]; exact Int.le_refl _)
theorem gn9_all {W P O G : Nat → Int} {v t : Int} {k : Nat} (h : ∀ j, j < k → G j + 2 ≤ t) : gn9 W P O G v t k = su9 (fun j => pV9 W P v (O j).toNat) k := su9_eq k (fun j q => by
  unfold pV9
  by_cases c : W (O j).toNat = v ∧ P (O j).toNat = 0
  · rw [if_pos c, if_pos ⟨c, h j q⟩]
  · rw [if_neg c, if_neg (fun z => c z.1)])
theorem pv_le (W P : Nat → Int) (v : Int) (O : Nat → Int) : ∀ k : Nat, su9 (fun j => pV9 W P v (O j).toNat) k ≤ (k : Int)
  | 0 => Int.le_refl 0
  | k + 1 => by
    have := pv_le W P v O k
    show _ + pV9 W P v (O k).toNat ≤ _
    have : pV9 W P v (O k).toNat ≤ 1 := by unfold pV9; split <;> omega
    omega
theorem in9_v {Y W P O G : Nat → Int} {x k : Nat} {t : Int} : ∀ j : Nat, in9 Y W P O G x k t j = Y (W x).toNat + su9 (fun j => qV9 W P (W x) (O j).toNat) (if j ≤ k then j else k) + su9 (fun j => pV9 W P (W x) (O j).toNat) j - gn9 W P O G (W x) t (if j ≤ k then j else k)
  | 0 => by rw [if_pos (Nat.zero_le _)]; show Y (W x).toNat = Y (W x).toNat + 0 + 0 - 0; omega
  | j + 1 => by
    have a := in9_v (Y := Y) (W := W) (P := P) (O := O) (G := G) (x := x) (k := k) (t := t) j
    unfold in9
    rw [a]
    show _ + di9 W P O G x k t j = _ + _ + (su9 (fun j => pV9 W P (W x) (O j).toNat) j + pV9 W P (W x) (O j).toNat) - _
    by_cases c : j + 1 ≤ k
    · rw [if_pos (by omega : j ≤ k), if_pos c]
      show _ = _ + (su9 (fun j => qV9 W P (W x) (O j).toNat) j + qV9 W P (W x) (O j).toNat) + _ - (gn9 W P O G (W x) t j + (if (W (O j).toNat = W x ∧ P (O j).toNat = 0) ∧ G j + 2 ≤ t then 1 else 0))
      unfold di9 qV9 pV9
      by_cases w : W (O j).toNat = W x
      · by_cases p : P (O j).toNat = 0
        · by_cases g : G j + 2 ≤ t
          · rw [if_neg (fun z => z.2.1 p), if_neg (fun z => z.2.2 ⟨by omega, g⟩), if_neg (fun z => z.2 p), if_pos ⟨w, p⟩, if_pos ⟨⟨w, p⟩, g⟩]; omega
          · rw [if_neg (fun z => z.2.1 p), if_pos ⟨w, p, fun z => g z.2⟩, if_neg (fun z => z.2 p), if_pos ⟨w, p⟩, if_neg (fun z => g z.2)]; omega
        · rw [if_pos ⟨w, p, by omega⟩, if_pos ⟨w, p⟩, if_neg (fun z => p z.2), if_neg (fun z => p z.1.2)]; omega
      · rw [if_neg (fun z => w z.1), if_neg (fun z => w z.1), if_neg (fun z => w z.1), if_neg (fun z => w z.1), if_neg (fun z => w z.1.1)]; omega
    · rw [if_neg c]
      have e : (if j ≤ k then j else k) = k := by split <;> omega
      rw [e]
      unfold di9 pV9
      by_cases w : W (O j).toNat = W x
      · by_cases p : P (O j).toNat = 0
        · rw [if_neg (fun z => z.2.1 p), if_pos ⟨w, p, fun z => by have := z.1; omega⟩, if_pos ⟨w, p⟩]; omega
        · rw [if_neg (fun z => by have := z.2.2; omega), if_neg (fun z => p z.2.1), if_neg (fun z => p z.2)]; omega
      · rw [if_neg (fun z => w z.1), if_neg (fun z => w z.1), if_neg (fun z => w z.1)]; omega
theorem so9_m {W P O G : Nat → Int} {x k : Nat} {t : Int} : ∀ n j : Nat, j < n → j < k → W (O j).toNat = W x → P (O j).toNat = 0 → t < G j + 2 → so9 W P O G x k t n ≤ G j + 2
  | 0, j, h, _, _, _, _ => absurd h (Nat.not_lt_zero _)
  | n + 1, j, h, hk, hw, hp, ht => by
    unfold so9
    by_cases e : j = n
    · subst e
      split
      · exact Int.le_refl _
      · next c => exact Int.not_lt.mp (fun z => c ⟨hw, hp, hk, ht, z⟩)
    · have a := so9_m n j (by omega) hk hw hp ht
      split
      · next c => exact Int.le_trans (Int.le_of_lt c.2.2.2.2) a
      · exact a
theorem so9_w {W P O G : Nat → Int} {x k : Nat} {t : Int} : ∀ n : Nat, so9 W P O G x k t n = 1000 ∨ ∃ j, j < n ∧ j < k ∧ (W (O j).toNat = W x ∧ P (O j).toNat = 0) ∧ t < G j + 2 ∧ so9 W P O G x k t n = G j + 2
  | 0 => Or.inl rfl
  | n + 1 => by
    unfold so9
    split
    · next c => exact Or.inr ⟨n, by omega, c.2.2.1, ⟨c.1, c.2.1⟩, c.2.2.2.1, rfl⟩
    · rcases so9_w (W := W) (P := P) (O := O) (G := G) (x := x) (k := k) (t := t) n with z | ⟨j, a, b⟩
      · exact Or.inl z
      · exact Or.inr ⟨j, by omega, b⟩
/-- when a thing may be put: the least time from t on at which enough are out -/
theorem bg9_L {A Y W P O G : Nat → Int} {n x k : Nat} {need : Int} (hk : k ≤ n) (hG : ∀ j, j < k → G j + 2 < 1000) (hneed : ∀ t, in9 Y W P O G x k t n < A (30 + 4 * (W x).toNat + 3) ↔ need ≤ gn9 W P O G (W x) t k) : ∀ (f : Nat) (t : Int), (k : Int) - gn9 W P O G (W x) t k < (f : Int) → (bg9 A Y W P O G n x k f t = -1 ∧ ∀ s, t ≤ s → gn9 W P O G (W x) s k < need) ∨ (t ≤ bg9 A Y W P O G n x k f t ∧ need ≤ gn9 W P O G (W x) (bg9 A Y W P O G n x k f t) k ∧ ∀ s, t ≤ s → s < bg9 A Y W P O G n x k f t → gn9 W P O G (W x) s k < need)
  | 0, t, hf => by
    have a := gn9_le (W := W) (P := P) (O := O) (G := G) (v := W x) (t := t) k
    have b := pv_le W P (W x) O k
    omega
  | f + 1, t, hf => by
    unfold bg9
    by_cases c : in9 Y W P O G x k t n < A (30 + 4 * (W x).toNat + 3)
    · rw [if_pos c]
      exact Or.inr ⟨Int.le_refl _, (hneed t).1 c, fun s a b => absurd a (by omega)⟩
    · rw [if_neg c]
      have nt : gn9 W P O G (W x) t k < need := Int.not_le.mp (fun z => c ((hneed t).2 z))
      have same : ∀ s, t ≤ s → (∀ j, j < k → W (O j).toNat = W x → P (O j).toNat = 0 → G j + 2 ≤ s → G j + 2 ≤ t) → gn9 W P O G (W x) s k = gn9 W P O G (W x) t k := by
        intro s hs h
        refine su9_eq k (fun j q => ?_)
        by_cases d : (W (O j).toNat = W x ∧ P (O j).toNat = 0) ∧ G j + 2 ≤ s
        · rw [if_pos d, if_pos ⟨d.1, h j q d.1.1 d.1.2 d.2⟩]
        · rw [if_neg d, if_neg (fun z => d ⟨z.1, by omega⟩)]
      by_cases e : so9 W P O G x k t n = 1000
      · rw [if_pos e]
        refine Or.inl ⟨rfl, fun s hs => ?_⟩
        rw [same s hs (fun j q w p g => ?_)]
        · exact nt
        · refine Int.not_lt.mp (fun z => ?_)
          have := so9_m (G := G) (t := t) n j (by omega) q w p z
          have := hG j q
          omega
      · rw [if_neg e]
        obtain ⟨j, j1, j2, j3, j4, j5⟩ := (so9_w (W := W) (P := P) (O := O) (G := G) (x := x) (k := k) (t := t) n).resolve_left e
        have mid : ∀ s, t ≤ s → s < so9 W P O G x k t n → gn9 W P O G (W x) s k < need := by
          intro s h1 h2
          rw [same s h1 (fun i q w p g => ?_)]
          · exact nt
          · refine Int.not_lt.mp (fun z => ?_)
            have := so9_m (G := G) (t := t) n i (by omega) q w p z
            omega
        have more : gn9 W P O G (W x) t k + 1 ≤ gn9 W P O G (W x) (so9 W P O G x k t n) k := by
          have s1 : su9 (ua (fun j => if (W (O j).toNat = W x ∧ P (O j).toNat = 0) ∧ G j + 2 ≤ t then (1 : Int) else 0) j 1) k ≤ gn9 W P O G (W x) (so9 W P O G x k t n) k := by
            refine su9_mono k (fun i q => ?_)
            unfold ua
            by_cases ij : i = j
            · rw [if_pos ij, ij, if_pos ⟨j3, by omega⟩]; exact Int.le_refl _
            · rw [if_neg ij]
              by_cases d : (W (O i).toNat = W x ∧ P (O i).toNat = 0) ∧ G i + 2 ≤ t
              · rw [if_pos ⟨d.1, by omega⟩]; show (if _ then (1 : Int) else 0) ≤ 1; rw [if_pos d]; exact Int.le_refl _
              · show (if _ then (1 : Int) else 0) ≤ _; rw [if_neg d]; split <;> omega
          rw [su9_ua, if_pos j2, if_neg (fun z => by have := z.2; omega)] at s1
          unfold gn9 at s1 ⊢
          omega
        rcases bg9_L hk hG hneed f (so9 W P O G x k t n) (by omega) with ⟨a1, a2⟩ | ⟨a1, a2, a3⟩
        · refine Or.inl ⟨a1, fun s hs => ?_⟩
          by_cases z : s < so9 W P O G x k t n
          · exact mid s hs z
          · exact a2 s (by omega)
        · refine Or.inr ⟨by omega, a2, fun s h1 h2 => ?_⟩
          by_cases z : s < so9 W P O G x k t n
          · exact mid s h1 z
          · exact a3 s (by omega) h2
