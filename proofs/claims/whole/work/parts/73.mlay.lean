/-! the strings of all hours: class and reference -/
theorem fr9_c {A K K2 : Nat → Int} : ∀ n : Nat, (∀ w, w < n → K w = K2 w) → fr9 A K n = fr9 A K2 n
  | 0, _ => rfl
  | n + 1, h => by
    unfold fr9
    rw [fr9_c n (fun w q => h w (by omega)), h n (by omega)]
theorem bs_c {A K K2 L L2 : Nat → Int} {nd : Nat} (hK : ∀ w, w < (A 1).toNat → K w = K2 w) : ∀ N : Nat, (∀ X, X < N → L X = L2 X) → bs A K L nd N = bs A K2 L2 nd N
  | 0, _ => rfl
  | N + 1, h => by
    unfold bs
    rw [bs_c hK N (fun X q => h X (by omega)), fr9_c _ hK, h N (by omega)]
theorem ml_nn {A : Nat → Int} (hwi : wi A) (X : Int) : ∀ n : Nat, (n : Int) ≤ A 1 → 0 ≤ ml A X n
  | 0, _ => Int.le_refl 0
  | n + 1, h => by
    have a := ml_nn hwi X n (by omega)
    have w := hwi n (by omega)
    unfold ml
    split <;> omega
/-- nothing need be strung where all are in one town -/
theorem bs_one {A K L : Nat → Int} (hc : cn A) (hwi : wi A) (hL : ∀ X, X < 2 ^ (A 1).toNat → L X = ml A (X : Int) (A 1).toNat) {l : Nat} (hl : l < 8) : (bs A K L (2 ^ l) (2 ^ (A 1).toNat)).1 = 0 := by
  have p0 : 0 < 2 ^ (A 1).toNat := Nat.pow_pos (by decide)
  have h8 : 2 ^ l < 256 := Nat.pow_lt_pow_right (m := l) (n := 8) (by decide) hl
  obtain ⟨t, t1, t2, t3⟩ := low9e h8 (Nat.pow_pos (by decide))
  rw [Nat.testBit_two_pow, decide_eq_true_iff] at t2
  subst t2
  have f0 : fea9 A K (2 ^ l) 0 := by
    refine ⟨Nat.zero_and _, ?_⟩
    obtain ⟨M, m1, m2, m3, m4, m5⟩ := jo_iff hc hwi (X := 0) h8 t3
    refine m5.2 (fun i hi => ?_)
    rw [Nat.testBit_two_pow, decide_eq_true_iff] at hi
    rw [← hi]; exact m2
  have m0 : ml A ((0 : Nat) : Int) (A 1).toNat = 0 := by
    have : ∀ n : Nat, ml A ((0 : Nat) : Int) n = 0 := by
      intro n
      induction n with
      | zero => rfl
      | succ n ih =>
        unfold ml
        rw [ih, if_neg (by simp)]; rfl
    exact this _
  rcases bs_sp (A := A) (K := K) (L := L) (nd := 2 ^ l) (2 ^ (A 1).toNat) with ⟨b1, b2⟩ | ⟨X, x1, x2, x3, x4⟩
  · exact absurd f0 (b1 0 p0)
  · rw [x3]
    show (X : Int) = 0
    have a := x4 0 p0 f0
    rw [hL X x1, hL 0 p0, m0] at a
    have b := ml_nn hwi (X : Int) (A 1).toNat (by omega)
    omega
theorem lyE_v (A : Nat → Int) (pl : Int) (E : Nat → Int) : ∀ n s : Nat, s < n → lyE A pl E n s = sd A s (pl / 48) (pl % 48)
  | 0, s, h => absurd h (Nat.not_lt_zero _)
  | n + 1, s, h => by
    unfold lyE ua
    split
    · next e => rw [e]
    · exact lyE_v A pl E n s (by omega)
theorem se_bit (A : Nat → Int) (h d t : Int) : ∀ n s : Nat, (se A h d t n).testBit s = true ↔ (s < n ∧ sd A s d t = h)
  | 0, s => by
    unfold se
    rw [Nat.zero_testBit]
    exact ⟨fun z => (by cases z), fun z => absurd z.1 (Nat.not_lt_zero _)⟩
  | n + 1, s => by
    unfold se
    rw [Nat.testBit_or, Bool.or_eq_true, se_bit A h d t n s]
    split
    · next g =>
      rw [Nat.testBit_two_pow, decide_eq_true_iff]
      constructor
      · rintro (z | z)
        · exact ⟨by omega, z.2⟩
        · exact ⟨by omega, z ▸ g⟩
      · rintro ⟨z1, z2⟩
        by_cases e : s = n
        · exact Or.inr e.symm
        · exact Or.inl ⟨by omega, z2⟩
    · next g =>
      rw [Nat.zero_testBit]
      constructor
      · rintro (z | z)
        · exact ⟨by omega, z.2⟩
        · cases z
      · rintro ⟨z1, z2⟩
        have : s ≠ n := fun e => g (e ▸ z2)
        exact Or.inl ⟨by omega, z2⟩
theorem tz_tw {A E : Nat → Int} {h : Nat} {d t : Int} {N : Nat} (hE : ∀ s, s < N → E s = sd A s d t) : ∀ n : Nat, n ≤ N → tz9 A E h n = tw9 A h (se A (h : Int) d t N) n
  | 0, _ => rfl
  | n + 1, hn => by
    unfold tz9 tw9
    rw [tz_tw hE n (by omega), hE n (by omega)]
    congr 1
    by_cases g : sd A n d t = (h : Int)
    · rw [if_pos g, if_pos ((bit_int _ n).2 ((se_bit A _ d t N n).2 ⟨by omega, g⟩))]
    · rw [if_neg g, if_neg (fun z => g ((se_bit A _ d t N n).1 ((bit_int _ n).1 z)).2)]
theorem tc_tk (K : Nat → Int) (s : Int) : ∀ w : Nat, tc9 K s w = tk9 K s w
  | 0 => rfl
  | w + 1 => by unfold tc9 tk9; rw [tc_tk K s w]
theorem tw9_one {A : Nat → Int} {h bits : Nat} (hb : bits = 0) : ∀ n : Nat, tw9 A h bits n = 2 ^ (A (280 + 8 * h + 4)).toNat
  | 0 => rfl
  | n + 1 => by
    unfold tw9
    rw [tw9_one hb n, if_neg (fun z => by rw [bit_int, hb, Nat.zero_testBit] at z; cases z), Nat.or_zero]
theorem ly_on {A : Nat → Int} (hh : hi A) {h : Nat} (h4 : (h : Int) < A 4) {d t : Int} (ht : 0 ≤ t ∧ t ≤ 47) : ((48 * A (280 + 8 * h + 1) + A (280 + 8 * h + 2) ≤ 48 * d + t ∧ 48 * d + t < 48 * A (280 + 8 * h + 1) + A (280 + 8 * h + 2) + A (280 + 8 * h + 3)) ∧ (A 9 = -1 ∨ A (280 + 8 * h + 7) ≤ A 9)) ↔ thb A h d t = true := by
  have a := hh h h4
  unfold thb
  rw [decide_eq_true_iff]
  omega
section LYS
variable {A : Nat → Int}
theorem ly_sg (hc : cn A) (hwi : wi A) (hh : hi A) (hs : si A) {d t : Int} (ht : 0 ≤ t ∧ t ≤ 47) {E O P S K S2 K2 L : Nat → Int} (hE : ∀ s, s < (A 2).toNat → E s = sd A s d t) (hO : ord9 A O) (hL : ∀ X, X < 2 ^ (A 1).toNat → L X = ml A (X : Int) (A 1).toNat) (hS : ∀ i, i < 24 → S i = S2 i) (hK : ∀ i, i < 12 → K i = K2 i) : ∀ h : Nat, (h : Int) ≤ A 4 → (∀ i, i < 24 → (lyH A E O (48 * d + t) S K P h).1 i = (sg A L K2 S2 d t h).1 i) ∧ ∀ i, i < 12 → (lyH A E O (48 * d + t) S K P h).2.1 i = (sg A L K2 S2 d t h).2 i
  | 0, _ => ⟨hS, hK⟩
  | h + 1, h4 => by
    obtain ⟨a1, a2⟩ := ly_sg hc hwi hh hs ht hE hO hL hS hK h (by omega)
    have on := ly_on hh (h := h) (by omega) (d := d) ht
    unfold lyH sg
    by_cases g : thb A h d t = true
    · rw [if_pos (on.2 g), if_pos g]
      have tz := tz_tw (h := h) hE (A 2).toNat (Nat.le_refl _)
      have hnd := tz9_lt (E := E) hh hs (h := h) (by omega) (A 2).toNat (by omega)
      have h0 : 0 < tz9 A E h (A 2).toNat := by
        refine Nat.pos_of_ne_zero (fun z => ?_)
        have : ∀ n : Nat, (tz9 A E h n).testBit (A (280 + 8 * h + 4)).toNat = true := by
          intro n
          induction n with
          | zero => exact Nat.testBit_two_pow_self
          | succ n ih => unfold tz9; rw [Nat.testBit_or, ih]; rfl
        have q := this (A 2).toNat
        rw [z, Nat.zero_testBit] at q
        cases q
      have key : wqN A (lyH A E O (48 * d + t) S K P h).2.1 O (lyH A E O (48 * d + t) S K P h).2.2 (tz9 A E h (A 2).toNat) = st9 A (sg A L K2 S2 d t h).2 L h d t := by
        rw [wqN_bs hc hwi hO h0 hnd hL, bs_c (fun w q => a2 w (by omega)) _ (fun X q => rfl)]
        unfold st9
        split
        · next z =>
          rw [tz, tw9_one z]
          have q := hh h (by omega)
          exact bs_one hc hwi hL (by omega)
        · rw [tz]
      rw [key]
      refine ⟨fun i q => ?_, fun i q => ?_⟩
      · show ua _ h _ i = ua _ h _ i
        unfold ua
        split
        · rfl
        · exact a1 i q
      · have rg := st9_rng hc (sg A L K2 S2 d t h).2 L h d t
        generalize st9 A (sg A L K2 S2 d t h).2 L h d t = x at *
        show (if x = -1 then (lyH A E O (48 * d + t) S K P h).2.1 else tc9 (lyH A E O (48 * d + t) S K P h).2.1 x 12) i = (if 0 < x then tk9 (sg A L K2 S2 d t h).2 x 12 else (sg A L K2 S2 d t h).2) i
        rw [← tc_tk]
        by_cases x1 : x = -1
        · rw [if_pos x1, if_neg (by omega)]; exact a2 i q
        · rw [if_neg x1]
          by_cases x2 : 0 < x
          · rw [if_pos x2, tc9_v, tc9_v, a2 i q]
          · rw [if_neg x2, tc9_v, if_pos q, show x = 0 by omega, Int.zero_ediv, a2 i q]; simp
    · rw [if_neg (fun z => g (on.1 z)), if_neg g]
      exact ⟨a1, a2⟩
theorem sg_later {L K S : Nat → Int} {d t : Int} {h : Nat} : ∀ m : Nat, (sg A L K S d t (h + 1 + m)).1 h = (sg A L K S d t (h + 1)).1 h
  | 0 => rfl
  | m + 1 => by
    rw [show h + 1 + (m + 1) = (h + 1 + m) + 1 by omega]
    rw [← sg_later m]
    conv => lhs; unfold sg
    split
    · exact ua_ne _ _ (by omega)
    · rfl
/-- the class's strings are the reference's -/
theorem lyS_sg (hc : cn A) (hwi : wi A) (hh : hi A) (hs : si A) {d t : Int} (hd : 0 ≤ d ∧ d ≤ 199) (ht : 0 ≤ t ∧ t ≤ 47) (S E K O P : Nat → Int) {S2 K2 L : Nat → Int} (h70 : L 0 = 0) : ∀ i, i < 24 → lyS A (48 * d + t) S E K O P i = (sg A (ms A L (A 1).toNat) (zt K2 12) (mz S2 24) d t (A 4).toNat).1 i := by
  intro i q
  unfold lyS
  rw [if_pos (by omega)]
  refine (ly_sg hc hwi hh hs ht (fun s z => ?_) (ow9_ord (by omega)) (fun X z => ms_ml h70 _ X z) (fun i z => ?_) (fun i z => ?_) (A 4).toNat (by omega)).1 i q
  · rw [lyE_v _ _ _ _ s z, show (48 * d + t) / 48 = d by omega, show (48 * d + t) % 48 = t by omega]
  · rw [mz_1 _ 24 i z, mz_1 _ 24 i z]
  · rw [zt_0 _ 12 i z, zt_0 _ 12 i z]
theorem lyS_at (hc : cn A) (hwi : wi A) (hh : hi A) (hs : si A) {d t : Int} (hd : 0 ≤ d ∧ d ≤ 199) (ht : 0 ≤ t ∧ t ≤ 47) (S E K O P : Nat → Int) {S2 K2 L : Nat → Int} (h70 : L 0 = 0) {h : Nat} (h4 : (h : Int) < A 4) : lyS A (48 * d + t) S E K O P h = (sg A (ms A L (A 1).toNat) (zt K2 12) (mz S2 24) d t (nh9 A (h : Int))).1 h := by
  rw [lyS_sg hc hwi hh hs hd ht S E K O P (S2 := S2) (K2 := K2) h70 h (by omega)]
  have e : nh9 A (h : Int) = h + 1 := by unfold nh9; split <;> omega
  rw [e, show (A 4).toNat = h + 1 + ((A 4).toNat - (h + 1)) by omega, sg_later]
end LYS
