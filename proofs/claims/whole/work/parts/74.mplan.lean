/-! the plan: class and reference -/
abbrev guT : Type := (Nat → Int) × Int
def guW (body : Nat → guT → guT) : Nat → guT → guT
  | 0, s => s
  | t + 1, s => body t (guW body t s)
def guB (A : Nat → Int) : Nat → Nat → (Nat → Int) → guT → guT
  | 0, k, T, s => if ks A T k ≤ s.2 then s else (kc s.1 T k, ks A T k)
  | f + 1, k, T, s => guW (fun t s => if gs A (ua T k (t : Int)) k k = true then guB A f (k + 1) (ua T k (t : Int)) s else s) 6 s
theorem gq_c {A T T2 : Nat → Int} {k j : Nat} (hk : T k = T2 k) (hj : T j = T2 j) : gq A T k j = gq A T2 k j := by unfold gq; rw [hk, hj]
theorem gs_c {A T T2 : Nat → Int} {k : Nat} (hk : T k = T2 k) : ∀ j : Nat, (∀ i, i < j → T i = T2 i) → gs A T k j = gs A T2 k j
  | 0, _ => rfl
  | j + 1, h => by unfold gs; rw [gs_c hk j (fun i q => h i (by omega)), gq_c hk (h j (by omega))]
theorem ks_c {A T T2 : Nat → Int} : ∀ k : Nat, (∀ i, i < k → T i = T2 i) → ks A T k = ks A T2 k
  | 0, _ => rfl
  | k + 1, h => by unfold ks; rw [ks_c k (fun i q => h i (by omega)), h k (by omega)]
theorem kc_c {G T T2 : Nat → Int} : ∀ k : Nat, (∀ i, i < k → T i = T2 i) → kc G T k = kc G T2 k
  | 0, _ => rfl
  | k + 1, h => by unfold kc; rw [kc_c k (fun i q => h i (by omega)), h k (by omega)]
theorem kc_v {G T : Nat → Int} : ∀ k i : Nat, i < k → kc G T k i = T i
  | 0, i, h => absurd h (Nat.not_lt_zero _)
  | k + 1, i, h => by
    unfold kc ua
    split
    · next e => rw [e]
    · exact kc_v k i (by omega)
theorem ua_c {T T2 : Nat → Int} {k : Nat} {v : Int} (h : ∀ i, i < k → T i = T2 i) : ∀ i, i < k + 1 → ua T k v i = ua T2 k v i := by
  intro i q
  unfold ua
  split
  · rfl
  · exact h i (by omega)
theorem guW_c {b1 b2 : Nat → guT → guT} (h : ∀ t s, t < 6 → b1 t s = b2 t s) : ∀ (n : Nat) (s : guT), n ≤ 6 → guW b1 n s = guW b2 n s
  | 0, _, _ => rfl
  | n + 1, s, q => by unfold guW; rw [guW_c h n s (by omega), h n _ (by omega)]
theorem guB_c {A : Nat → Int} : ∀ (f k : Nat) (T T2 : Nat → Int) (s : guT), (∀ i, i < k → T i = T2 i) → guB A f k T s = guB A f k T2 s
  | 0, k, T, T2, s, h => by unfold guB; rw [ks_c k h, kc_c k h]
  | f + 1, k, T, T2, s, h => by
    unfold guB
    refine guW_c (fun t s _ => ?_) 6 s (Nat.le_refl _)
    have e := ua_c (v := (t : Int)) h
    rw [gs_c (T := ua T k (t : Int)) (T2 := ua T2 k (t : Int)) (e k (by omega)) k (fun i q => e i (by omega)), guB_c f (k + 1) _ _ s e]
def gN9 : Nat → Nat
  | 0 => 1
  | f + 1 => 6 * (1 + gN9 f) + 1
section PLN
variable {A : Nat → Int} {np : Nat}
abbrev gL9 (A : Nat → Int) (f k : Nat) (T : Nat → Int) : Nat → guT → guT := fun t s => if gs A (ua T k (t : Int)) k k = true then guB A f (k + 1) (ua T k (t : Int)) s else s
theorem pl_1 {F k : Nat} {T G : Nat → Int} {tot : Int} (h6 : T k + 1 = 6) : pl9 A (F + 1) (k : Int) T G tot = pl9 A F ((k : Int) + -1) (ua T k (T k + 1)) G tot := by
  conv => lhs; unfold pl9
  rw [if_neg (by omega), Int.toNat_natCast, if_pos h6]
theorem pl_2 {F k : Nat} {T G : Nat → Int} {tot : Int} (h6 : ¬ T k + 1 = 6) (hg : gs A (ua T k (T k + 1)) k k = false) : pl9 A (F + 1) (k : Int) T G tot = pl9 A F (k : Int) (ua T k (T k + 1)) G tot := by
  conv => lhs; unfold pl9
  rw [if_neg (by omega), Int.toNat_natCast, if_neg h6, if_pos hg]
theorem pl_3 {F k : Nat} {T G : Nat → Int} {tot : Int} (h6 : ¬ T k + 1 = 6) (hg : ¬ gs A (ua T k (T k + 1)) k k = false) (hk : (k : Int) = A 7 - 1) : pl9 A (F + 1) (k : Int) T G tot = pl9 A F (k : Int) (ua T k (T k + 1)) (if ks A (ua T k (T k + 1)) (A 7).toNat ≤ tot then G else kc G (ua T k (T k + 1)) (A 7).toNat) (if ks A (ua T k (T k + 1)) (A 7).toNat ≤ tot then tot else ks A (ua T k (T k + 1)) (A 7).toNat) := by
  conv => lhs; unfold pl9
  rw [if_neg (by omega), Int.toNat_natCast, if_neg h6, if_neg hg, if_pos hk]
theorem pl_4 {F k : Nat} {T G : Nat → Int} {tot : Int} (h6 : ¬ T k + 1 = 6) (hg : ¬ gs A (ua T k (T k + 1)) k k = false) (hk : ¬ (k : Int) = A 7 - 1) : pl9 A (F + 1) (k : Int) T G tot = pl9 A F ((k : Int) + 1) (ua (ua T k (T k + 1)) (k + 1) (-1)) G tot := by
  conv => lhs; unfold pl9
  rw [if_neg (by omega), Int.toNat_natCast, if_neg h6, if_neg hg, if_neg hk]
theorem pl_lv (hnp : A 7 = (np : Int)) : ∀ (f k : Nat) (T G : Nat → Int) (tot : Int), k + f + 1 = np → T k = -1 → ∃ (n : Nat) (T2 : Nat → Int), n ≤ gN9 (f + 1) ∧ (∀ j, j < k → T2 j = T j) ∧ ∀ F, pl9 A (n + F) (k : Int) T G tot = pl9 A F ((k : Int) + -1) T2 (guW (gL9 A f k T) 6 (G, tot)).1 (guW (gL9 A f k T) 6 (G, tot)).2 := by
  intro f
  induction f with
  | zero =>
    intro k T G tot hk hT
    have key : ∀ m : Nat, m ≤ 6 → ∃ (n : Nat) (T2 : Nat → Int), n ≤ m * (1 + gN9 0) ∧ (∀ j, j < k → T2 j = T j) ∧ T2 k = (m : Int) - 1 ∧ ∀ F, pl9 A (n + F) (k : Int) T G tot = pl9 A F (k : Int) T2 (guW (gL9 A 0 k T) m (G, tot)).1 (guW (gL9 A 0 k T) m (G, tot)).2 := by
      intro m
      induction m with
      | zero => intro _; exact ⟨0, T, by omega, fun _ _ => rfl, by rw [hT]; rfl, fun F => by rw [Nat.zero_add]; rfl⟩
      | succ m ih =>
        intro hm
        obtain ⟨n, T2, h1, h2, h3, h4⟩ := ih (by omega)
        have t1 : T2 k + 1 = (m : Int) := by omega
        have ag : ∀ i, i < k + 1 → ua T2 k (m : Int) i = ua T k (m : Int) i := ua_c h2
        have gse : gs A (ua T2 k (m : Int)) k k = gs A (ua T k (m : Int)) k k := gs_c (ag k (by omega)) k (fun i q => ag i (by omega))
        refine ⟨n + 1, ua T2 k (m : Int), by have mul : (m + 1) * (1 + gN9 0) = m * (1 + gN9 0) + (1 + gN9 0) := Nat.succ_mul _ _; omega, fun j q => by rw [ua_ne _ _ (by omega)]; exact h2 j q, by rw [ua_at]; omega, fun F => ?_⟩
        rw [show n + 1 + F = n + (F + 1) by omega, h4]
        show _ = pl9 A F (k : Int) (ua T2 k (m : Int)) (gL9 A 0 k T m (guW (gL9 A 0 k T) m (G, tot))).1 (gL9 A 0 k T m (guW (gL9 A 0 k T) m (G, tot))).2
        generalize guW (gL9 A 0 k T) m (G, tot) = s
        by_cases g : gs A (ua T k (m : Int)) k k = true
        · rw [pl_3 (by omega) (by rw [t1, gse, g]; decide) (by omega), t1]
          show _ = pl9 A F (k : Int) (ua T2 k (m : Int)) (if _ then _ else _ : guT).1 (if _ then _ else _ : guT).2
          rw [if_pos g]
          unfold guB
          rw [show (A 7).toNat = k + 1 by omega, ks_c (k + 1) ag, kc_c (k + 1) ag]
          split <;> rfl
        · rw [pl_2 (by omega) (by rw [t1, gse]; exact Bool.eq_false_iff.mpr g), t1]
          show _ = pl9 A F (k : Int) (ua T2 k (m : Int)) (if _ then _ else _ : guT).1 (if _ then _ else _ : guT).2
          rw [if_neg g]
    obtain ⟨n, T2, h1, h2, h3, h4⟩ := key 6 (Nat.le_refl _)
    refine ⟨n + 1, ua T2 k (T2 k + 1), by show n + 1 ≤ 6 * (1 + gN9 0) + 1; omega, fun j q => by rw [ua_ne _ _ (by omega)]; exact h2 j q, fun F => ?_⟩
    rw [show n + 1 + F = n + (F + 1) by omega, h4, pl_1 (by omega)]
  | succ f ihf =>
    intro k T G tot hk hT
    have key : ∀ m : Nat, m ≤ 6 → ∃ (n : Nat) (T2 : Nat → Int), n ≤ m * (1 + gN9 (f + 1)) ∧ (∀ j, j < k → T2 j = T j) ∧ T2 k = (m : Int) - 1 ∧ ∀ F, pl9 A (n + F) (k : Int) T G tot = pl9 A F (k : Int) T2 (guW (gL9 A (f + 1) k T) m (G, tot)).1 (guW (gL9 A (f + 1) k T) m (G, tot)).2 := by
      intro m
      induction m with
      | zero => intro _; exact ⟨0, T, by omega, fun _ _ => rfl, by rw [hT]; rfl, fun F => by rw [Nat.zero_add]; rfl⟩
      | succ m ih =>
        intro hm
        obtain ⟨n, T2, h1, h2, h3, h4⟩ := ih (by omega)
        have t1 : T2 k + 1 = (m : Int) := by omega
        have ag : ∀ i, i < k + 1 → ua T2 k (m : Int) i = ua T k (m : Int) i := ua_c h2
        have gse : gs A (ua T2 k (m : Int)) k k = gs A (ua T k (m : Int)) k k := gs_c (ag k (by omega)) k (fun i q => ag i (by omega))
        have mul : (m + 1) * (1 + gN9 (f + 1)) = m * (1 + gN9 (f + 1)) + (1 + gN9 (f + 1)) := Nat.succ_mul _ _
        by_cases g : gs A (ua T k (m : Int)) k k = true
        · obtain ⟨n2, T3, i1, i2, i3⟩ := ihf (k + 1) (ua (ua T2 k (m : Int)) (k + 1) (-1)) (guW (gL9 A (f + 1) k T) m (G, tot)).1 (guW (gL9 A (f + 1) k T) m (G, tot)).2 (by omega) (ua_at _ _ _)
          refine ⟨n + (1 + n2), T3, by omega, fun j q => ?_, ?_, fun F => ?_⟩
          · rw [i2 j (by omega), ua_ne _ _ (by omega), ua_ne _ _ (by omega)]; exact h2 j q
          · rw [i2 k (by omega), ua_ne _ _ (by omega), ua_at]; omega
          · rw [show n + (1 + n2) + F = n + ((n2 + F) + 1) by omega, h4, pl_4 (by omega) (by rw [t1, gse, g]; decide) (by omega), t1]
            have c1 : ((k : Nat) : Int) + 1 = ((k + 1 : Nat) : Int) := by omega
            rw [c1, i3 F, show ((k + 1 : Nat) : Int) + -1 = (k : Int) by omega]
            show _ = pl9 A F (k : Int) T3 (gL9 A (f + 1) k T m (guW (gL9 A (f + 1) k T) m (G, tot))).1 (gL9 A (f + 1) k T m (guW (gL9 A (f + 1) k T) m (G, tot))).2
            generalize guW (gL9 A (f + 1) k T) m (G, tot) = s
            have e : gL9 A (f + 1) k T m s = guW (gL9 A f (k + 1) (ua (ua T2 k (m : Int)) (k + 1) (-1))) 6 s := by
              show (if gs A (ua T k (m : Int)) k k = true then guB A (f + 1) (k + 1) (ua T k (m : Int)) s else s) = _
              rw [if_pos g]
              exact guB_c (f + 1) (k + 1) _ (ua (ua T2 k (m : Int)) (k + 1) (-1)) s (fun i q => by rw [ua_ne (ua T2 k (m : Int)) _ (by omega)]; exact (ag i q).symm)
            rw [e]
        · refine ⟨n + 1, ua T2 k (m : Int), by omega, fun j q => by rw [ua_ne _ _ (by omega)]; exact h2 j q, by rw [ua_at]; omega, fun F => ?_⟩
          rw [show n + 1 + F = n + (F + 1) by omega, h4, pl_2 (by omega) (by rw [t1, gse]; exact Bool.eq_false_iff.mpr g), t1]
          show _ = pl9 A F (k : Int) (ua T2 k (m : Int)) (if _ then _ else _ : guT).1 (if _ then _ else _ : guT).2
          rw [if_neg g]
    obtain ⟨n, T2, h1, h2, h3, h4⟩ := key 6 (Nat.le_refl _)
    refine ⟨n + 1, ua T2 k (T2 k + 1), by show n + 1 ≤ 6 * (1 + gN9 (f + 1)) + 1; omega, fun j q => by rw [ua_ne _ _ (by omega)]; exact h2 j q, fun F => ?_⟩
    rw [show n + 1 + F = n + (F + 1) by omega, h4, pl_1 (by omega)]
theorem gN9_le : ∀ f : Nat, f ≤ 6 → gN9 f ≤ 2000000 := by decide +kernel
theorem pl_end {F : Nat} {T G : Nat → Int} {tot : Int} {k : Int} (hk : k < 0) : pl9 A F k T G tot = (tot, G, T) := by
  cases F with
  | zero => rfl
  | succ F => unfold pl9; rw [if_pos hk]
theorem plR_gu (hnp : A 7 = (np : Int)) (h6 : np ≤ 6) (T0 G0 : Nat → Int) (hT : T0 0 = -1) : (plR A T0 G0).1 = (if np = 0 then 0 else (guB A np 0 T0 (G0, -1)).2) ∧ (np ≠ 0 → (plR A T0 G0).2.1 = (guB A np 0 T0 (G0, -1)).1) := by
  unfold plR
  by_cases z : np = 0
  · subst z
    rw [if_pos (show A 7 = 0 from hnp), if_pos rfl]
    exact ⟨rfl, fun h => absurd rfl h⟩
  · rw [if_neg (by omega), if_neg z]
    obtain ⟨f, rfl⟩ : ∃ f, np = f + 1 := ⟨np - 1, by omega⟩
    obtain ⟨n, T2, h1, h2, h3⟩ := pl_lv hnp f 0 T0 G0 (-1) (by omega) hT
    have le := gN9_le (f + 1) h6
    have e : pl9 A plF 0 T0 G0 (-1) = ((guB A (f + 1) 0 T0 (G0, -1)).2, (guB A (f + 1) 0 T0 (G0, -1)).1, T2) := by
      have q := h3 (plF - n)
      rw [show n + (plF - n) = plF by unfold plF; omega] at q
      rw [show ((0 : Nat) : Int) = 0 from rfl] at q
      rw [q, pl_end (by omega)]
      rfl
    rw [e]
    exact ⟨rfl, fun _ => rfl⟩
end PLN
/-! the class's search leaves out only what cannot be better -/
theorem dx9_le {Wo : Nat → Int} {k : Nat} : ∀ m t : Nat, t < m → Wo (6 * k + t) ≤ dx9 Wo k m
  | 0, t, h => absurd h (Nat.not_lt_zero _)
  | m + 1, t, h => by
    unfold dx9
    by_cases e : t = m
    · rw [e]; exact zmx_r _ _
    · exact Int.le_trans (dx9_le m t (by omega)) (zmx_l _ _)
theorem mo9_v {Wo M0 : Nat → Int} {np : Nat} : ∀ c : Nat, c ≤ np → mo9 Wo M0 np c np = 0 ∧ ∀ i, np - c ≤ i → i < np → mo9 Wo M0 np c i = mo9 Wo M0 np c (i + 1) + dx9 Wo i 6
  | 0, _ => ⟨ua_at _ _ _, fun i h1 h2 => absurd h1 (by omega)⟩
  | c + 1, hc => by
    obtain ⟨a1, a2⟩ := mo9_v (Wo := Wo) (M0 := M0) (np := np) c (by omega)
    refine ⟨?_, fun i h1 h2 => ?_⟩
    · show ua _ _ _ np = 0
      rw [ua_ne _ _ (by omega)]; exact a1
    · show ua _ (np - 1 - c) _ i = ua _ (np - 1 - c) _ (i + 1) + _
      by_cases e : i = np - 1 - c
      · subst e
        rw [ua_at, ua_ne _ _ (by omega)]
      · rw [ua_ne _ _ e, ua_ne _ _ (by omega)]
        exact a2 i (by omega) h2
section PLC
variable {A So Wo Mo : Nat → Int} {np : Nat}
theorem fi_gs (hS : ∀ k, k < np → So k = A (750 + 7 * k)) {Ro : Nat → Int} {k : Nat} {t : Int} (hk : k < np) : ∀ j : Nat, j ≤ k → fi9 So Ro k t j = gs A (ua Ro k t) k j
  | 0, _ => rfl
  | j + 1, h => by
    unfold fi9 gs
    rw [fi_gs hS hk j (by omega)]
    congr 1
    unfold gq
    rw [ua_at, ua_ne _ _ (by omega : j ≠ k), hS j (by omega), hS k hk]
    refine decide_eq_decide.mpr ?_
    omega
theorem guB_le (hW : ∀ k t, k < np → t < 6 → Wo (6 * k + t) = A (750 + 7 * k + 1 + t)) (hM0 : Mo np = 0) (hM : ∀ i, i < np → Mo i = Mo (i + 1) + dx9 Wo i 6) : ∀ (f k : Nat) (T : Nat → Int) (s : guT), k + f = np → ks A T k + Mo k ≤ s.2 → guB A f k T s = s
  | 0, k, T, s, h, h2 => by
    unfold guB
    rw [show k = np by omega] at h2 ⊢
    exact if_pos (by omega)
  | f + 1, k, T, s, h, h2 => by
    unfold guB
    have key : ∀ m : Nat, m ≤ 6 → guW (fun t s => if gs A (ua T k (t : Int)) k k = true then guB A f (k + 1) (ua T k (t : Int)) s else s) m s = s := by
      intro m
      induction m with
      | zero => intro _; rfl
      | succ m ih =>
        intro hm
        unfold guW
        rw [ih (by omega)]
        split
        · refine guB_le hW hM0 hM f (k + 1) _ s (by omega) ?_
          have a := dx9_le (Wo := Wo) (k := k) 6 m (by omega)
          have b := hM k (by omega)
          have c := hW k m (by omega) (by omega)
          have d : ks A (ua T k (m : Int)) (k + 1) = ks A T k + A (750 + 7 * k + 1 + m) := by
            show ks A (ua T k (m : Int)) k + A (750 + 7 * k + 1 + (ua T k (m : Int) k).toNat) = _
            rw [ua_at, Int.toNat_natCast, ks_c k (fun i q => ua_ne _ _ (by omega))]
          omega
        · rfl
    exact key 6 (Nat.le_refl _)
def gR8 (np : Nat) (s : gtT) (u : guT) : Prop := s.2.2 = u.2 ∧ (0 ≤ u.2 → ∀ i, i < np → s.2.1 i = u.1 i)
theorem gt_gu (hn : np ≤ 6) (hS : ∀ k, k < np → So k = A (750 + 7 * k)) (hWr : ∀ i, i < 36 → 0 ≤ Wo i ∧ Wo i ≤ 9999) (hW : ∀ k t, k < np → t < 6 → Wo (6 * k + t) = A (750 + 7 * k + 1 + t)) (hM0 : Mo np = 0) (hM : ∀ i, i < np → Mo i = Mo (i + 1) + dx9 Wo i 6) : ∀ (f k : Nat) (sm : Int) (s : gtT) (u : guT), k + f = np → sm = ks A s.1 k → (0 ≤ sm ∧ sm ≤ 9999 * (k : Int)) → gR8 np s u → gR8 np (gtB So Wo Mo f k sm s) (guB A f k s.1 u)
  | 0, k, sm, s, u, h, hs, hr, hR => by
    unfold gtB
    by_cases c : sm + Mo k ≤ s.2.2
    · rw [if_pos c]
      have e := guB_le (A := A) hW hM0 hM 0 k s.1 u h (by rw [← hs, ← hR.1]; exact c)
      rw [e]; exact hR
    · rw [if_neg c]
      rw [show k = np by omega] at c hs ⊢
      unfold guB
      rw [if_neg (by rw [← hs, ← hR.1]; omega)]
      refine ⟨hs, fun _ i q => ?_⟩
      show cpy9 s.1 s.2.1 6 i = kc u.1 s.1 np i
      rw [kc_v np i q]
      exact if_pos (by omega)
  | f + 1, k, sm, s, u, h, hs, hr, hR => by
    unfold gtB
    by_cases c : sm + Mo k ≤ s.2.2
    · rw [if_pos c]
      have e := guB_le (A := A) hW hM0 hM (f + 1) k s.1 u h (by rw [← hs, ← hR.1]; exact c)
      rw [e]; exact hR
    · rw [if_neg c]
      unfold guB
      have key : ∀ m : Nat, m ≤ 6 → gR8 np (gtW (gtO (gtB So Wo Mo f) So Wo k sm) m s) (guW (fun t s9 => if gs A (ua s.1 k (t : Int)) k k = true then guB A f (k + 1) (ua s.1 k (t : Int)) s9 else s9) m u) ∧ ∀ j, j < k → (gtW (gtO (gtB So Wo Mo f) So Wo k sm) m s).1 j = s.1 j := by
        intro m
        induction m with
        | zero => intro _; exact ⟨hR, fun _ _ => rfl⟩
        | succ m ih =>
          intro hm
          obtain ⟨i1, i2⟩ := ih (by omega)
          unfold gtW guW
          have fr := gtO_R (So := So) (by omega : k < 6) hr hWr (fun sm s b1 b2 => gtB_R So Wo Mo hWr f (k + 1) sm s (by omega) b1 b2) (by omega : m < 6) (gtW (gtO (gtB So Wo Mo f) So Wo k sm) m s)
          refine ⟨?_, fun j q => (fr.1 j q).trans (i2 j q)⟩
          generalize guW (fun t s9 => if gs A (ua s.1 k (t : Int)) k k = true then guB A f (k + 1) (ua s.1 k (t : Int)) s9 else s9) m u = v at *
          generalize gtW (gtO (gtB So Wo Mo f) So Wo k sm) m s = r at *
          have ag : ∀ i, i < k + 1 → ua r.1 k (m : Int) i = ua s.1 k (m : Int) i := ua_c i2
          have ge : fi9 So r.1 k (m : Int) k = gs A (ua s.1 k (m : Int)) k k := (fi_gs hS (by omega) k (Nat.le_refl _)).trans (gs_c (ag k (by omega)) k (fun i q => ag i (by omega)))
          unfold gtO
          rw [ge]
          by_cases g : gs A (ua s.1 k (m : Int)) k k = true
          · rw [if_pos g, if_pos g]
            have w := hW k m (by omega) (by omega)
            have wr := hWr (6 * k + m) (by omega)
            have d : sm + Wo (6 * k + m) = ks A (ua r.1 k (m : Int)) (k + 1) := by
              show _ = ks A (ua r.1 k (m : Int)) k + A (750 + 7 * k + 1 + (ua r.1 k (m : Int) k).toNat)
              rw [ua_at, Int.toNat_natCast, ks_c k (fun i q => (ua_ne r.1 _ (by omega)).trans (i2 i q)), hs, w]
            have z := gt_gu hn hS hWr hW hM0 hM f (k + 1) (sm + Wo (6 * k + m)) (ua r.1 k (m : Int), r.2.1, r.2.2) v (by omega) d (by omega) i1
            rw [guB_c f (k + 1) (ua s.1 k (m : Int)) (ua r.1 k (m : Int)) v (fun i q => (ag i q).symm)]
            exact z
          · rw [if_neg g, if_neg g]; exact i1
      exact (key 6 (Nat.le_refl _)).1
end PLC
/-- the plan's answers are the reference's -/
theorem plan_eq {A So Wo M0 Ro Br T0 G0 : Nat → Int} (hc : cn A) (hpi : piI A) (hS : ∀ k : Nat, (k : Int) < A 7 → So k = A (750 + 7 * k)) (hWr : ∀ i, i < 36 → 0 ≤ Wo i ∧ Wo i ≤ 9999) (hW : ∀ k t : Nat, (k : Int) < A 7 → t < 6 → Wo (6 * k + t) = A (750 + 7 * k + 1 + t)) (hT : T0 0 = -1) {what : Int} (hw : 0 ≤ what ∧ what ≤ A 7) : (if (gtB So Wo (mo9 Wo M0 (A 7).toNat (A 7).toNat) (A 7).toNat 0 0 (Ro, Br, -1)).2.2 = -1 then -1 else if what = 0 then (gtB So Wo (mo9 Wo M0 (A 7).toNat (A 7).toNat) (A 7).toNat 0 0 (Ro, Br, -1)).2.2 else (gtB So Wo (mo9 Wo M0 (A 7).toNat (A 7).toNat) (A 7).toNat 0 0 (Ro, Br, -1)).2.1 (what - 1).toNat) = (if (plR A T0 G0).1 < 0 then -1 else if what = 0 then (plR A T0 G0).1 else (plR A T0 G0).2.1 (what - 1).toNat) := by
  obtain ⟨np, hnp⟩ : ∃ np : Nat, A 7 = (np : Int) := ⟨(A 7).toNat, by omega⟩
  rw [show (A 7).toNat = np by omega]
  obtain ⟨m1, m2⟩ := mo9_v (Wo := Wo) (M0 := M0) (np := np) np (Nat.le_refl _)
  have R := gt_gu (A := A) (So := So) (Wo := Wo) (Mo := mo9 Wo M0 np np) (np := np) (by omega) (fun k q => hS k (by omega)) hWr (fun k t q q2 => hW k t (by omega) q2) m1 (fun i q => m2 i (by omega) q) np 0 0 (Ro, Br, -1) (G0, -1) (by omega) rfl (by omega) ⟨rfl, fun h => absurd h (by show ¬ (0 : Int) ≤ -1; omega)⟩
  have B := (gtB_R So Wo (mo9 Wo M0 np np) hWr np 0 0 (Ro, Br, -1) (by omega) (by omega) (by omega)).2 (by show -1 ≤ (-1 : Int) ∧ (-1 : Int) ≤ 59994; omega)
  obtain ⟨p1, p2⟩ := plR_gu (A := A) hnp (by omega) T0 G0 hT
  have gc : guB A np 0 Ro (G0, -1) = guB A np 0 T0 (G0, -1) := guB_c np 0 Ro T0 _ (fun i q => absurd q (Nat.not_lt_zero _))
  have R1 : (gtB So Wo (mo9 Wo M0 np np) np 0 0 (Ro, Br, -1)).2.2 = (guB A np 0 T0 (G0, -1)).2 := by rw [← gc]; exact R.1
  have R2 : 0 ≤ (guB A np 0 T0 (G0, -1)).2 → ∀ i, i < np → (gtB So Wo (mo9 Wo M0 np np) np 0 0 (Ro, Br, -1)).2.1 i = (guB A np 0 T0 (G0, -1)).1 i := by rw [← gc]; exact R.2
  by_cases z : np = 0
  · subst z
    rw [p1, if_pos rfl]
    have e : (gtB So Wo (mo9 Wo M0 0 0) 0 0 0 (Ro, Br, -1)).2.2 = 0 := by
      rw [R1]
      show (if ks A T0 0 ≤ (-1 : Int) then ((G0, -1) : guT) else (kc G0 T0 0, ks A T0 0)).2 = 0
      rw [if_neg (by show ¬ (0 : Int) ≤ -1; omega)]; rfl
    rw [e, if_neg (show ¬ (0 : Int) = -1 by omega), if_neg (show ¬ (0 : Int) < 0 by omega), if_pos (show what = 0 by omega), if_pos (show what = 0 by omega)]
  · rw [p1, if_neg z, p2 z, R1]
    by_cases n1 : (guB A np 0 T0 (G0, -1)).2 < 0
    · rw [if_pos n1, if_pos (by omega)]
    · rw [if_neg n1, if_neg (by omega)]
      by_cases w0 : what = 0
      · rw [if_pos w0, if_pos w0]
      · rw [if_neg w0, if_neg w0]
        exact R2 (by omega) _ (by omega)
