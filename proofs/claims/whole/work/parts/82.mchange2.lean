/-! change: the class and the reference answer alike -/
theorem sg_w {A : Nat → Int} {L K0 S0 : Nat → Int} (d t : Int) (hS : ∀ i, i < 24 → S0 i = -1) : ∀ h i : Nat, i < 24 → (sg A L K0 S0 d t h).1 i < ((2 ^ (A 1).toNat : Nat) : Int)
  | 0, i, q => by
    show S0 i < _
    have := Nat.two_pow_pos (A 1).toNat
    rw [hS i q]; omega
  | h + 1, i, q => by
    have i1 := sg_w (A := A) (L := L) (K0 := K0) d t hS h i q
    have r : st9 A (sg A L K0 S0 d t h).2 L h d t < ((2 ^ (A 1).toNat : Nat) : Int) := by
      unfold st9
      have := Nat.two_pow_pos (A 1).toNat
      split
      · omega
      · exact (bs_rng _ _ _ _ _).2
    unfold sg
    split
    · show ua _ _ _ i < _
      unfold ua
      split
      · exact r
      · exact i1
    · exact i1
theorem pb9_0 {S : Nat → Int} {N w h : Nat} (hS : S h < ((2 ^ N : Nat) : Int)) (hw : N ≤ w) : pb9 S w h = 0 := by
  unfold pb9
  have p1 : (2 : Nat) ^ N ≤ 2 ^ w := Nat.pow_le_pow_right (by decide) hw
  have p2 := Nat.two_pow_pos w
  have e : (if S h < 0 then 0 else S h) / 2 ^ w = 0 := by
    refine Int.ediv_eq_zero_of_lt ?_ ?_
    · split <;> omega
    · have : ((2 ^ w : Nat) : Int) = 2 ^ w := by simp
      rw [← this]
      split <;> omega
  rw [e]; rfl
theorem pgw_b {E Ah : Nat → Int} (hE : ∀ h, h < 24 → E h = if Ah h < 0 then 0 else Ah h) {i : Nat} (hi : i < 288) : pgw E i ↔ pb9 Ah (i % 12) (i / 12) = 1 := by
  unfold pgw pb9
  rw [hE (i / 12) (by omega)]
theorem pgn_b {S Bh : Nat → Int} (hB : ∀ h, h < 24 → Bh h = S h) {i : Nat} (hi : i < 288) : pgn S i ↔ pb9 Bh (i % 12) (i / 12) = 1 := by
  unfold pgn pb9
  rw [hB (i / 12) (by omega)]
  by_cases c : 0 < S (i / 12)
  · rw [if_neg (by omega)]
    exact ⟨fun z => z.2, fun z => ⟨c, z⟩⟩
  · have z : (if S (i / 12) < 0 then 0 else S (i / 12)) = 0 := by split <;> omega
    rw [z, Int.zero_ediv]
    exact ⟨fun y => absurd y.1 c, fun y => by have y2 : (0 : Int) = 1 := y; omega⟩
/-- what is compared: the strings before and behind, in both -/
theorem ch_eq {A Ah Bh E S W0 B0 Y0 P Q R B1 B2 F ou O G F2 : Nat → Int} (hc : cn A) (hwi : wi A) (h13 : 1 ≤ A 13 ∧ A 13 ≤ 3) (hE : ∀ h, h < 24 → E h = if Ah h < 0 then 0 else Ah h) (hB : ∀ h, h < 24 → Bh h = S h) (hAw : ∀ h, h < 24 → Ah h < ((2 ^ (A 1).toNat : Nat) : Int)) (hBw : ∀ h, h < 24 → Bh h < ((2 ^ (A 1).toNat : Nat) : Int)) (hY0 : ∀ w, w < 12 → Y0 w = 0) (hW0 : ∀ j, j < 7 → 0 ≤ W0 j ∧ W0 j ≤ 11) :
    (cpS A Ah Bh (zt P 13) (zt Q 13) (s7q R 13) (A 1).toNat).1 = pgu E S 288 ∧ (cpS A Ah Bh (zt P 13) (zt Q 13) (s7q R 13) (A 1).toNat).2.1 = pgf E S 288 ∧ lsV (cpS A Ah Bh (zt P 13) (zt Q 13) (s7q R 13) (A 1).toNat).2.2.1 (cpS A Ah Bh (zt P 13) (zt Q 13) (s7q R 13) (A 1).toNat).2.2.2.1 (cpS A Ah Bh (zt P 13) (zt Q 13) (s7q R 13) (A 1).toNat).2.2.2.2 B1 B2 F ou (A 13).toNat (cpS A Ah Bh (zt P 13) (zt Q 13) (s7q R 13) (A 1).toNat).1 (cpS A Ah Bh (zt P 13) (zt Q 13) (s7q R 13) (A 1).toNat).2.1 = if pgu E S 288 + pgf E S 288 > 7 then -1 else (ls9 A (pgY E S Y0 288) (pgW E S W0 288) (pgB E S B0 288) (pgu E S 288 + pgf E S 288).toNat ((A 13).toNat - 1) lF9 (-1) (id9 O 7) G F2).1 := by
  have c1 : 0 ≤ A 1 ∧ A 1 ≤ 12 := by omega
  have N12 : (A 1).toNat ≤ 12 := by omega
  -- the bits
  have b0 : ∀ w, (A 1).toNat ≤ w → (cwZ9 Ah Bh w 24).1 = 0 ∧ (cwZ9 Ah Bh w 24).2.1 = 0 ∧ (cwZ9 Ah Bh w 24).2.2 = 0 := by
    intro w hw
    have a : ∀ h, h < 24 → pb9 Ah w h = 0 := fun h q => pb9_0 (hAw h q) hw
    have b : ∀ h, h < 24 → pb9 Bh w h = 0 := fun h q => pb9_0 (hBw h q) hw
    rw [cwZ_1, cwZ_2, cwZ_3]
    refine ⟨su9_z 24 a, su9_z 24 (fun h q => ?_), su9_z 24 (fun h q => ?_)⟩
    · rw [a h q, b h q]; rfl
    · rw [a h q, b h q]; rfl
  have val := cpS_val (A := A) (Ah := Ah) (Bh := Bh) (P := P) (Q := Q) (R := R) (A 1).toNat (by omega)
  have sums := cpS_v hwi c1.2 Ah Bh P Q R (A 1).toNat (by omega)
  generalize cpS A Ah Bh (zt P 13) (zt Q 13) (s7q R 13) (A 1).toNat = g at val sums
  have vPl : ∀ w, w < 12 → g.2.2.1 w = (cwZ9 Ah Bh w 24).2.1 := fun w hw => by
    rw [(val w (by omega)).1]
    by_cases c : w < (A 1).toNat
    · rw [if_pos c]
    · rw [if_neg c, (b0 w (by omega)).2.1]
  have vPu : ∀ w, w < 12 → g.2.2.2.1 w = (cwZ9 Ah Bh w 24).2.2 := fun w hw => by
    rw [(val w (by omega)).2.1]
    by_cases c : w < (A 1).toNat
    · rw [if_pos c]
    · rw [if_neg c, (b0 w (by omega)).2.2]
  have z12 : g.2.2.1 12 = 0 ∧ g.2.2.2.1 12 = 0 ∧ g.2.2.2.2 12 = 7 := by
    have := val 12 (by omega)
    rw [if_neg (by omega), if_neg (by omega), if_neg (by omega)] at this
    exact this
  have bit : ∀ (S : Nat → Int) (w h : Nat), pb9 S w h = 0 ∨ pb9 S w h = 1 := fun S w h => by have := pb9_r S w h; omega
  -- the sums over all cells
  have iu : ∀ i, i < 288 → (if pgw E i ∧ ¬ pgn S i then (1 : Int) else 0) = (fun w h => if pb9 Bh w h < pb9 Ah w h then (1 : Int) else 0) (i % 12) (i / 12) := by
    intro i hi
    have a := pgw_b hE hi
    have b := pgn_b hB hi
    show _ = (if pb9 Bh (i % 12) (i / 12) < pb9 Ah (i % 12) (i / 12) then (1 : Int) else 0)
    have ba := bit Ah (i % 12) (i / 12)
    have bb := bit Bh (i % 12) (i / 12)
    by_cases c : pb9 Bh (i % 12) (i / 12) < pb9 Ah (i % 12) (i / 12)
    · rw [if_pos c, if_pos ⟨a.2 (by omega), fun z => by have := b.1 z; omega⟩]
    · rw [if_neg c, if_neg (fun z => by have := a.1 z.1; have : ¬ pb9 Bh (i % 12) (i / 12) = 1 := fun y => z.2 (b.2 y); omega)]
  have iv : ∀ i, i < 288 → (if ¬ pgw E i ∧ pgn S i then (1 : Int) else 0) = (fun w h => if pb9 Ah w h < pb9 Bh w h then (1 : Int) else 0) (i % 12) (i / 12) := by
    intro i hi
    have a := pgw_b hE hi
    have b := pgn_b hB hi
    show _ = (if pb9 Ah (i % 12) (i / 12) < pb9 Bh (i % 12) (i / 12) then (1 : Int) else 0)
    have ba := bit Ah (i % 12) (i / 12)
    have bb := bit Bh (i % 12) (i / 12)
    by_cases c : pb9 Ah (i % 12) (i / 12) < pb9 Bh (i % 12) (i / 12)
    · rw [if_pos c, if_pos ⟨fun z => by have := a.1 z; omega, b.2 (by omega)⟩]
    · rw [if_neg c, if_neg (fun z => by have := b.1 z.2; have : ¬ pb9 Ah (i % 12) (i / 12) = 1 := fun y => z.1 (a.2 y); omega)]
  have eu : g.1 = pgu E S 288 := by
    rw [sums.1, pgu_su, su9_eq 288 iu, pg_cnt (fun w h => if pb9 Bh w h < pb9 Ah w h then (1 : Int) else 0)]
    show su9 g.2.2.1 12 + g.2.2.1 12 = _
    rw [z12.1, su9_eq 12 (fun w hw => by rw [vPl w hw, cwZ_2])]; omega
  have ev : g.2.1 = pgf E S 288 := by
    rw [sums.2.1, pgf_su, su9_eq 288 iv, pg_cnt (fun w h => if pb9 Ah w h < pb9 Bh w h then (1 : Int) else 0)]
    show su9 g.2.2.2.1 12 + g.2.2.2.1 12 = _
    rw [z12.2.1, su9_eq 12 (fun w hw => by rw [vPu w hw, cwZ_3])]; omega
  refine ⟨eu, ev, ?_⟩
  have r := pgu_r E S 288
  unfold lsV
  rw [eu, ev]
  by_cases c7 : 7 < pgu E S 288 + pgf E S 288
  · rw [if_pos c7, if_pos c7]
  rw [if_neg c7, if_neg c7]
  -- by wire
  generalize hW : pgW E S W0 288 = W
  generalize hP : pgB E S B0 288 = Pk
  obtain ⟨n, hn⟩ : ∃ n : Nat, pgu E S 288 + pgf E S 288 = (n : Int) := ⟨(pgu E S 288 + pgf E S 288).toNat, by omega⟩
  have n7 : n ≤ 7 := by omega
  have sum : ∀ Φ : Int → Int → Int, su9 (fun x => Φ (W x) (Pk x)) n = su9 (fun i => if pgw E i ↔ pgn S i then 0 else Φ ((i % 12 : Nat) : Int) (if pgn S i then 1 else 0)) 288 := by
    intro Φ
    have a := pg_sum E S W0 B0 Φ 288 (by omega)
    rw [hW, hP, hn, Int.toNat_natCast] at a
    exact a
  have hWr : ∀ x, x < n → 0 ≤ W x ∧ W x ≤ 11 := fun x hx => by rw [← hW]; exact pgW_r hW0 288 x (by omega)
  have cP : ∀ w : Nat, w < 12 → su9 (pV9 W Pk (w : Int)) n = (cwZ9 Ah Bh w 24).2.1 := by
    intro w hw
    have a := sum (fun a b => if a = (w : Int) ∧ b = 0 then 1 else 0)
    rw [show su9 (pV9 W Pk (w : Int)) n = su9 (fun x => if W x = (w : Int) ∧ Pk x = 0 then 1 else 0) n from rfl, a, cwZ_2, ← pg_one (fun w h => if pb9 Bh w h < pb9 Ah w h then (1 : Int) else 0) hw]
    refine su9_eq 288 (fun i hi => ?_)
    have i2 : (if pgw E i ∧ ¬ pgn S i then (1 : Int) else 0) = (if pb9 Bh (i % 12) (i / 12) < pb9 Ah (i % 12) (i / 12) then 1 else 0) := iu i hi
    rw [← i2]
    by_cases e : i % 12 = w
    · rw [if_pos e]
      by_cases x : pgw E i <;> by_cases y : pgn S i
      · rw [if_pos ⟨fun _ => y, fun _ => x⟩, if_neg (fun z => z.2 y)]
      · rw [if_neg (fun z => y (z.1 x)), if_neg y, if_pos ⟨by omega, rfl⟩, if_pos ⟨x, y⟩]
      · rw [if_neg (fun z => x (z.2 y)), if_pos y, if_neg (fun z => by have := z.2; omega), if_neg (fun z => x z.1)]
      · rw [if_pos ⟨fun z => absurd z x, fun z => absurd z y⟩, if_neg (fun z => x z.1)]
    · rw [if_neg e]
      split
      · rfl
      · rw [if_neg (fun z => e (by have := z.1; omega))]
  have cQ : ∀ w : Nat, w < 12 → su9 (qV9 W Pk (w : Int)) n = (cwZ9 Ah Bh w 24).2.2 := by
    intro w hw
    have a := sum (fun a b => if a = (w : Int) ∧ ¬ b = 0 then 1 else 0)
    rw [show su9 (qV9 W Pk (w : Int)) n = su9 (fun x => if W x = (w : Int) ∧ ¬ Pk x = 0 then 1 else 0) n from rfl, a, cwZ_3, ← pg_one (fun w h => if pb9 Ah w h < pb9 Bh w h then (1 : Int) else 0) hw]
    refine su9_eq 288 (fun i hi => ?_)
    have i2 : (if ¬ pgw E i ∧ pgn S i then (1 : Int) else 0) = (if pb9 Ah (i % 12) (i / 12) < pb9 Bh (i % 12) (i / 12) then 1 else 0) := iv i hi
    rw [← i2]
    by_cases e : i % 12 = w
    · rw [if_pos e]
      by_cases x : pgw E i <;> by_cases y : pgn S i
      · rw [if_pos ⟨fun _ => y, fun _ => x⟩, if_neg (fun z => z.1 x)]
      · rw [if_neg (fun z => y (z.1 x)), if_neg y, if_neg (fun z => z.2 rfl), if_neg (fun z => y z.2)]
      · rw [if_neg (fun z => x (z.2 y)), if_pos y, if_pos ⟨by omega, by omega⟩, if_pos ⟨x, y⟩]
      · rw [if_pos ⟨fun z => absurd z x, fun z => absurd z y⟩, if_neg (fun z => y z.2)]
    · rw [if_neg e]
      split
      · rfl
      · rw [if_neg (fun z => e (by have := z.1; omega))]
  have cY : ∀ w : Nat, w < 12 → pgY E S Y0 288 w + su9 (pV9 W Pk (w : Int)) n = (cwZ9 Ah Bh w 24).1 := by
    intro w hw
    have iw : ∀ i, i < 288 → (if i % 12 = w then (if pgw E i ∧ pgn S i then (1 : Int) else 0) else 0) = (if i % 12 = w then (fun w h => if pb9 Ah w h = 1 ∧ pb9 Bh w h = 1 then (1 : Int) else 0) (i % 12) (i / 12) else 0) := by
      intro i hi
      have a := pgw_b hE hi
      have b := pgn_b hB hi
      by_cases e : i % 12 = w
      · rw [if_pos e, if_pos e]
        show _ = (if pb9 Ah (i % 12) (i / 12) = 1 ∧ pb9 Bh (i % 12) (i / 12) = 1 then (1 : Int) else 0)
        by_cases c : pgw E i ∧ pgn S i
        · rw [if_pos c, if_pos ⟨a.1 c.1, b.1 c.2⟩]
        · rw [if_neg c, if_neg (fun z => c ⟨a.2 z.1, b.2 z.2⟩)]
      · rw [if_neg e, if_neg e]
    rw [pgY_su, hY0 w hw, su9_eq 288 iw, pg_one (fun w h => if pb9 Ah w h = 1 ∧ pb9 Bh w h = 1 then (1 : Int) else 0) hw, cP w hw, cwZ_1, cwZ_2, Int.zero_add, ← su9_add]
    refine su9_eq 24 (fun h _ => ?_)
    have ba := bit Ah w h
    have bb := bit Bh w h
    by_cases c : pb9 Ah w h = 1 ∧ pb9 Bh w h = 1
    · rw [if_pos c, if_neg (by omega)]; omega
    · rw [if_neg c]; split <;> omega
  have w13 : wdS g.2.2.1 g.2.2.2.1 g.2.2.2.2 13 = wdS g.2.2.1 g.2.2.2.1 g.2.2.2.2 12 := by
    show (if ¬ 12 = 12 ∧ _ then _ else _) = _
    rw [if_neg (fun z => z.1 rfl)]
  obtain ⟨d1, d2, d3⟩ := wdS_val (Pl := g.2.2.1) (Pu := g.2.2.2.1) (Sp := g.2.2.2.2) 12 (Nat.le_refl _)
  have C : Ct9 (fun w => decide (g.2.2.2.1 w ≤ g.2.2.2.2 w)) A (pgY E S Y0 288) W Pk g.2.2.2.2 n := by
    refine ⟨n7, hWr, fun w hw hd => ?_, fun w hw hd h0 => ?_, z12.2.2⟩
    · have hd := of_decide_eq_false hd
      have v := (val w (by omega)).2.2
      by_cases c : w < (A 1).toNat
      · rw [if_pos c] at v
        rw [v]
        have := cY w hw
        omega
      · rw [if_neg c] at v
        rw [v, vPu w hw, (b0 w (by omega)).2.2] at hd
        exact absurd (by omega) hd
    · have hd := of_decide_eq_true hd
      have v := (val w (by omega)).2.2
      by_cases c : w < (A 1).toNat
      · rw [if_pos c] at v
        rw [v, vPu w hw] at hd
        rw [cQ w hw]
        have := cY w hw
        omega
      · rw [cQ w hw, (b0 w (by omega)).2.2] at h0
        omega
  have sP : ∀ (a : Nat → Int) (D : Nat → Int) (tot : Nat → Int), (∀ w : Nat, w < 12 → su9 (fun x => if W x = (w : Int) then D x else 0) n = tot w) → (∀ i, i < 12 → a i = (if i < 12 ∧ g.2.2.2.1 i ≤ g.2.2.2.2 i then 0 else tot i)) → a 12 = su9 (fun w => if g.2.2.2.1 w ≤ g.2.2.2.2 w then tot w else 0) 12 → ∀ c, c < 13 → a c = su9 (fun x => if cl9 (fun w => decide (g.2.2.2.1 w ≤ g.2.2.2.2 w)) W x = c then D x else 0) n := by
    intro a D tot h1 h2 h3 c hc
    rw [cls_sum hWr hc]
    by_cases e : c = 12
    · subst e
      rw [if_pos rfl, h3]
      refine su9_eq 12 (fun w hw => ?_)
      by_cases z : g.2.2.2.1 w ≤ g.2.2.2.2 w
      · rw [if_pos z, if_pos (decide_eq_true z), h1 w hw]
      · rw [if_neg z, if_neg (fun y => z (of_decide_eq_true y))]
    · rw [if_neg e, h2 c (by omega)]
      by_cases z : g.2.2.2.1 c ≤ g.2.2.2.2 c
      · rw [if_pos ⟨by omega, z⟩, if_pos (decide_eq_true z)]
      · rw [if_neg (fun y => z y.2), if_neg (fun y => z (of_decide_eq_true y)), h1 c (by omega)]
  have hPl : ∀ c, c < 13 → (wdS g.2.2.1 g.2.2.2.1 g.2.2.2.2 13).1 c = su9 (fP9 (fun w => decide (g.2.2.2.1 w ≤ g.2.2.2.2 w)) W Pk c) n := by
    intro c hc
    rw [w13, sP (wdS g.2.2.1 g.2.2.2.1 g.2.2.2.2 12).1 (fun x => if Pk x = 0 then 1 else 0) g.2.2.1 (fun w hw => ?_) (fun i hi => (d1 i hi).1) (by rw [d2, z12.1, Int.zero_add]) c hc]
    · refine su9_eq n (fun x _ => ?_)
      unfold fP9
      by_cases y : cl9 (fun w => decide (g.2.2.2.1 w ≤ g.2.2.2.2 w)) W x = c
      · rw [if_pos y]
        by_cases z : Pk x = 0
        · rw [if_pos z, if_pos ⟨y, z⟩]
        · rw [if_neg z, if_neg (fun q => z q.2)]
      · rw [if_neg y, if_neg (fun q => y q.1)]
    · rw [vPl w hw, ← cP w hw]
      refine su9_eq n (fun x _ => ?_)
      unfold pV9
      by_cases y : W x = (w : Int)
      · rw [if_pos y]
        by_cases z : Pk x = 0
        · rw [if_pos z, if_pos ⟨y, z⟩]
        · rw [if_neg z, if_neg (fun q => z q.2)]
      · rw [if_neg y, if_neg (fun q => y q.1)]
  have hPu : ∀ c, c < 13 → (wdS g.2.2.1 g.2.2.2.1 g.2.2.2.2 13).2 c = su9 (fQ9 (fun w => decide (g.2.2.2.1 w ≤ g.2.2.2.2 w)) W Pk c) n := by
    intro c hc
    rw [w13, sP (wdS g.2.2.1 g.2.2.2.1 g.2.2.2.2 12).2 (fun x => if ¬ Pk x = 0 then 1 else 0) g.2.2.2.1 (fun w hw => ?_) (fun i hi => (d1 i hi).2) (by rw [d3, z12.2.1, Int.zero_add]) c hc]
    · refine su9_eq n (fun x _ => ?_)
      unfold fQ9
      by_cases y : cl9 (fun w => decide (g.2.2.2.1 w ≤ g.2.2.2.2 w)) W x = c
      · rw [if_pos y]
        by_cases z : ¬ Pk x = 0
        · rw [if_pos z, if_pos ⟨y, z⟩]
        · rw [if_neg z, if_neg (fun q => z q.2)]
      · rw [if_neg y, if_neg (fun q => y q.1)]
    · rw [vPu w hw, ← cQ w hw]
      refine su9_eq n (fun x _ => ?_)
      unfold qV9
      by_cases y : W x = (w : Int)
      · rw [if_pos y]
        by_cases z : ¬ Pk x = 0
        · rw [if_pos z, if_pos ⟨y, z⟩]
        · rw [if_neg z, if_neg (fun q => z q.2)]
      · rw [if_neg y, if_neg (fun q => y q.1)]
  obtain ⟨s1, s2, _⟩ := wdS_v (Sp := g.2.2.2.2) (Pl := g.2.2.1) (Pu := g.2.2.2.1) (fun i q => by have := sums.2.2.1 i q; omega) 13 (Nat.le_refl _)
  have fin := ls_eq (B1 := B1) (B2 := B2) (F := F2) (F2 := F) (G := G) (O := O) (ou := ou) (hs := (A 13).toNat - 1) C (by omega) hPl hPu (p := pgu E S 288) (q := pgf E S 288) (by rw [s1, ← eu]; exact sums.1) (by rw [s2, ← ev]; exact sums.2.1) hn
  rw [show (A 13).toNat - 1 + 1 = (A 13).toNat by omega] at fin
  rw [hn, Int.toNat_natCast]
  exact fin
