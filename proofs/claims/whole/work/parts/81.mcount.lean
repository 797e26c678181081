/-! counts of what is pulled and put, over the hours and over the wires -/
theorem su9_add (f g : Nat → Int) : ∀ n : Nat, su9 (fun i => f i + g i) n = su9 f n + su9 g n
  | 0 => rfl
  | n + 1 => by
    show su9 (fun i => f i + g i) n + (f n + g n) = su9 f n + f n + (su9 g n + g n)
    rw [su9_add f g n]; omega
theorem su9_split (f : Nat → Int) (a : Nat) : ∀ b : Nat, su9 f (a + b) = su9 f a + su9 (fun i => f (a + i)) b
  | 0 => by show su9 f a = su9 f a + 0; omega
  | b + 1 => by
    show su9 f (a + b) + f (a + b) = su9 f a + (su9 (fun i => f (a + i)) b + f (a + b))
    rw [su9_split f a b]; omega
theorem su9_sw (g : Nat → Nat → Int) (m : Nat) : ∀ n : Nat, su9 (fun h => su9 (fun w => g w h) m) n = su9 (fun w => su9 (fun h => g w h) n) m
  | 0 => (su9_z m (fun _ _ => rfl)).symm
  | n + 1 => by
    show su9 (fun h => su9 (fun w => g w h) m) n + su9 (fun w => g w n) m = su9 (fun w => su9 (fun h => g w h) n + g w n) m
    rw [su9_sw g m n, su9_add]
theorem su9_12 (g : Nat → Nat → Int) : ∀ m : Nat, su9 (fun k => g (k % 12) (k / 12)) (12 * m) = su9 (fun h => su9 (fun w => g w h) 12) m
  | 0 => rfl
  | m + 1 => by
    show _ = su9 (fun h => su9 (fun w => g w h) 12) m + su9 (fun w => g w m) 12
    rw [show 12 * (m + 1) = 12 * m + 12 by omega, su9_split, su9_12 g m]
    rw [su9_eq (f := fun i => g ((12 * m + i) % 12) ((12 * m + i) / 12)) (g := fun w => g w m) 12 (fun i hi => by rw [show (12 * m + i) % 12 = i by omega, show (12 * m + i) / 12 = m by omega])]
theorem su9_pt (f : Nat → Int) {v n : Nat} (h : v < n) : su9 (fun w => if w = v then f w else 0) n = f v := by
  have e : su9 (fun w => if w = v then f w else 0) n = su9 (ua (fun _ => 0) v (f v)) n := su9_eq n (fun i _ => by
    unfold ua
    by_cases c : i = v
    · rw [if_pos c, if_pos c, c]
    · rw [if_neg c, if_neg c])
  rw [e, su9_ua, if_pos h, su9_z n (fun _ _ => rfl)]; omega
theorem pg_cnt (g : Nat → Nat → Int) : su9 (fun i => g (i % 12) (i / 12)) 288 = su9 (fun w => su9 (g w) 24) 12 := by
  rw [show (288 : Nat) = 12 * 24 by rfl, su9_12 g 24, su9_sw]
theorem pg_one (g : Nat → Nat → Int) {w : Nat} (hw : w < 12) : su9 (fun i => if i % 12 = w then g (i % 12) (i / 12) else 0) 288 = su9 (g w) 24 := by
  rw [pg_cnt (fun w2 h => if w2 = w then g w2 h else 0)]
  rw [su9_eq (g := fun w2 => if w2 = w then su9 (g w2) 24 else 0) 12 (fun i _ => by
    by_cases c : i = w
    · rw [if_pos c]; exact su9_eq 24 (fun h _ => if_pos c)
    · rw [if_neg c]; exact su9_z 24 (fun h _ => if_neg c)), su9_pt _ hw]
theorem pgu_su (E S : Nat → Int) : ∀ k : Nat, pgu E S k = su9 (fun i => if pgw E i ∧ ¬ pgn S i then 1 else 0) k
  | 0 => rfl
  | k + 1 => by unfold pgu; rw [pgu_su E S k]; rfl
theorem pgf_su (E S : Nat → Int) : ∀ k : Nat, pgf E S k = su9 (fun i => if ¬ pgw E i ∧ pgn S i then 1 else 0) k
  | 0 => rfl
  | k + 1 => by unfold pgf; rw [pgf_su E S k]; rfl
theorem pgY_su (E S Y : Nat → Int) (w : Nat) : ∀ k : Nat, pgY E S Y k w = Y w + su9 (fun i => if i % 12 = w then (if pgw E i ∧ pgn S i then 1 else 0) else 0) k
  | 0 => by show Y w = Y w + 0; omega
  | k + 1 => by
    have a := pgY_su E S Y w k
    show (if pgw E k ∧ pgn S k then ua (pgY E S Y k) (k % 12) (pgY E S Y k (k % 12) + 1) else pgY E S Y k) w = Y w + (su9 _ k + (if k % 12 = w then (if pgw E k ∧ pgn S k then 1 else 0) else 0))
    by_cases c : pgw E k ∧ pgn S k
    · rw [if_pos c, if_pos c]
      by_cases e : k % 12 = w
      · rw [if_pos e, e, ua_at, a]; omega
      · rw [if_neg e, ua_ne _ _ (fun z => e z.symm), a]; omega
    · rw [if_neg c, if_neg c, a]
      split <;> omega
theorem pg_sum (E S W B : Nat → Int) (Φ : Int → Int → Int) : ∀ k : Nat, pgu E S k + pgf E S k ≤ 7 → su9 (fun x => Φ (pgW E S W k x) (pgB E S B k x)) (pgu E S k + pgf E S k).toNat = su9 (fun i => if pgw E i ↔ pgn S i then 0 else Φ ((i % 12 : Nat) : Int) (if pgn S i then 1 else 0)) k
  | 0, _ => rfl
  | k + 1, h => by
    have r := pgu_r E S k
    have r1 := pgu_r E S (k + 1)
    show _ = su9 _ k + (if pgw E k ↔ pgn S k then 0 else Φ ((k % 12 : Nat) : Int) (if pgn S k then 1 else 0))
    by_cases c : pgw E k ↔ pgn S k
    · have e1 : pgu E S (k + 1) = pgu E S k := by
        show pgu E S k + (if pgw E k ∧ ¬ pgn S k then 1 else 0) = _
        rw [if_neg (fun z => z.2 (c.1 z.1))]; omega
      have e2 : pgf E S (k + 1) = pgf E S k := by
        show pgf E S k + (if ¬ pgw E k ∧ pgn S k then 1 else 0) = _
        rw [if_neg (fun z => z.1 (c.2 z.2))]; omega
      rw [e1, e2] at h ⊢
      have w1 : pgW E S W (k + 1) = pgW E S W k := by
        show (if ¬ (pgw E k ↔ pgn S k) ∧ pgu E S k + pgf E S k < 7 then _ else _) = _
        rw [if_neg (fun z => z.1 c)]
      have w2 : pgB E S B (k + 1) = pgB E S B k := by
        show (if ¬ (pgw E k ↔ pgn S k) ∧ pgu E S k + pgf E S k < 7 then _ else _) = _
        rw [if_neg (fun z => z.1 c)]
      rw [w1, w2, if_pos c, pg_sum E S W B Φ k h]; omega
    · have es : pgu E S (k + 1) + pgf E S (k + 1) = pgu E S k + pgf E S k + 1 := by
        show pgu E S k + (if pgw E k ∧ ¬ pgn S k then 1 else 0) + (pgf E S k + (if ¬ pgw E k ∧ pgn S k then 1 else 0)) = _
        by_cases a : pgw E k
        · have b : ¬ pgn S k := fun z => c ⟨fun _ => z, fun _ => a⟩
          rw [if_pos ⟨a, b⟩, if_neg (fun z => z.1 a)]; omega
        · have b : pgn S k := Classical.byContradiction fun z => c ⟨fun y => absurd y a, fun y => absurd y z⟩
          rw [if_neg (fun z => a z.1), if_pos ⟨a, b⟩]; omega
      rw [es] at h ⊢
      rw [show (pgu E S k + pgf E S k + 1).toNat = (pgu E S k + pgf E S k).toNat + 1 by omega]
      have w1 : pgW E S W (k + 1) = ua (pgW E S W k) (pgu E S k + pgf E S k).toNat ((k % 12 : Nat) : Int) := by
        show (if ¬ (pgw E k ↔ pgn S k) ∧ pgu E S k + pgf E S k < 7 then _ else _) = _
        rw [if_pos ⟨c, by omega⟩]
      have w2 : pgB E S B (k + 1) = ua (pgB E S B k) (pgu E S k + pgf E S k).toNat (if pgn S k then 1 else 0) := by
        show (if ¬ (pgw E k ↔ pgn S k) ∧ pgu E S k + pgf E S k < 7 then _ else _) = _
        rw [if_pos ⟨c, by omega⟩]
      rw [w1, w2, if_neg c]
      show su9 _ (pgu E S k + pgf E S k).toNat + Φ (ua (pgW E S W k) _ _ (pgu E S k + pgf E S k).toNat) (ua (pgB E S B k) _ _ (pgu E S k + pgf E S k).toNat) = _
      rw [ua_at, ua_at, su9_eq (g := fun x => Φ (pgW E S W k x) (pgB E S B k x)) _ (fun i q => by rw [ua_ne _ _ (by omega : i ≠ (pgu E S k + pgf E S k).toNat), ua_ne _ _ (by omega : i ≠ (pgu E S k + pgf E S k).toNat)]), pg_sum E S W B Φ k (by omega)]
theorem cwZ_1 (Ah Bh : Nat → Int) (w : Nat) : ∀ h : Nat, (cwZ9 Ah Bh w h).1 = su9 (pb9 Ah w) h
  | 0 => rfl
  | h + 1 => by rw [cwZ9_1, cwZ_1 Ah Bh w h]; rfl
theorem cwZ_2 (Ah Bh : Nat → Int) (w : Nat) : ∀ h : Nat, (cwZ9 Ah Bh w h).2.1 = su9 (fun h => if pb9 Bh w h < pb9 Ah w h then 1 else 0) h
  | 0 => rfl
  | h + 1 => by rw [cwZ9_2, cwZ_2 Ah Bh w h]; rfl
theorem cwZ_3 (Ah Bh : Nat → Int) (w : Nat) : ∀ h : Nat, (cwZ9 Ah Bh w h).2.2 = su9 (fun h => if pb9 Ah w h < pb9 Bh w h then 1 else 0) h
  | 0 => rfl
  | h + 1 => by rw [cwZ9_3, cwZ_3 Ah Bh w h]; rfl
theorem cpS_val {A Ah Bh P Q R : Nat → Int} : ∀ w : Nat, w ≤ 13 → ∀ i, i < 13 → (cpS A Ah Bh (zt P 13) (zt Q 13) (s7q R 13) w).2.2.1 i = (if i < w then (cwZ9 Ah Bh i 24).2.1 else 0) ∧ (cpS A Ah Bh (zt P 13) (zt Q 13) (s7q R 13) w).2.2.2.1 i = (if i < w then (cwZ9 Ah Bh i 24).2.2 else 0) ∧ (cpS A Ah Bh (zt P 13) (zt Q 13) (s7q R 13) w).2.2.2.2 i = (if i < w then A (30 + 4 * i + 3) - (cwZ9 Ah Bh i 24).1 else 7)
  | 0, _, i, q => by
    rw [if_neg (Nat.not_lt_zero _), if_neg (Nat.not_lt_zero _), if_neg (Nat.not_lt_zero _)]
    exact ⟨zt_0 P 13 i q, zt_0 Q 13 i q, s7q_v R 13 i q⟩
  | w + 1, h, i, q => by
    have a := cpS_val (A := A) (Ah := Ah) (Bh := Bh) (P := P) (Q := Q) (R := R) w (by omega) i q
    unfold cpS
    by_cases e : i = w
    · subst e
      rw [if_neg (Nat.lt_irrefl _), if_neg (Nat.lt_irrefl _), if_neg (Nat.lt_irrefl _)] at a
      rw [if_pos (by omega), if_pos (by omega), if_pos (by omega)]
      dsimp only
      rw [ua_at, ua_at, ua_at, a.1, a.2.1]
      omega
    · have q2 : ∀ (x y : Int), (if i < w + 1 then x else y) = (if i < w then x else y) := by
        intro x y
        by_cases z : i < w
        · rw [if_pos z, if_pos (by omega)]
        · rw [if_neg z, if_neg (by omega)]
      rw [q2, q2, q2]
      dsimp only
      rw [ua_ne _ _ e, ua_ne _ _ e, ua_ne _ _ e]
      exact a
theorem wdS_val {Pl Pu Sp : Nat → Int} : ∀ v : Nat, v ≤ 12 → (∀ i, i < 12 → (wdS Pl Pu Sp v).1 i = (if i < v ∧ Pu i ≤ Sp i then 0 else Pl i) ∧ (wdS Pl Pu Sp v).2 i = (if i < v ∧ Pu i ≤ Sp i then 0 else Pu i)) ∧ (wdS Pl Pu Sp v).1 12 = Pl 12 + su9 (fun w => if Pu w ≤ Sp w then Pl w else 0) v ∧ (wdS Pl Pu Sp v).2 12 = Pu 12 + su9 (fun w => if Pu w ≤ Sp w then Pu w else 0) v
  | 0, _ => ⟨fun i _ => by rw [if_neg (fun z => absurd z.1 (Nat.not_lt_zero _)), if_neg (fun z => absurd z.1 (Nat.not_lt_zero _))]; exact ⟨rfl, rfl⟩, by show Pl 12 = Pl 12 + 0; omega, by show Pu 12 = Pu 12 + 0; omega⟩
  | v + 1, h => by
    obtain ⟨a1, a2, a3⟩ := wdS_val (Pl := Pl) (Pu := Pu) (Sp := Sp) v (by omega)
    have av := a1 v (by omega)
    rw [if_neg (fun z => absurd z.1 (Nat.lt_irrefl _)), if_neg (fun z => absurd z.1 (Nat.lt_irrefl _))] at av
    have q2 : ∀ (i : Nat) (_ : i ≠ v) (x y : Int), (if i < v + 1 ∧ Pu i ≤ Sp i then x else y) = (if i < v ∧ Pu i ≤ Sp i then x else y) := by
      intro i g x y
      by_cases z : i < v ∧ Pu i ≤ Sp i
      · rw [if_pos z, if_pos ⟨by omega, z.2⟩]
      · rw [if_neg z, if_neg (fun y => z ⟨by omega, y.2⟩)]
    show _ ∧ _ = Pl 12 + (su9 _ v + (if Pu v ≤ Sp v then Pl v else 0)) ∧ _ = Pu 12 + (su9 _ v + (if Pu v ≤ Sp v then Pu v else 0))
    by_cases c : Pu v ≤ Sp v
    · have e : wdS Pl Pu Sp (v + 1) = (ua (ua (wdS Pl Pu Sp v).1 12 ((wdS Pl Pu Sp v).1 12 + (wdS Pl Pu Sp v).1 v)) v 0, ua (ua (wdS Pl Pu Sp v).2 12 ((wdS Pl Pu Sp v).2 12 + (wdS Pl Pu Sp v).2 v)) v 0) := by
        show (if ¬ v = 12 ∧ (wdS Pl Pu Sp v).2 v ≤ Sp v then _ else _) = _
        rw [if_pos ⟨by omega, by rw [av.2]; exact c⟩]
      rw [e]
      dsimp only
      rw [if_pos c, if_pos c]
      refine ⟨fun i q => ?_, ?_, ?_⟩
      · by_cases g : i = v
        · subst g
          rw [ua_at, ua_at, if_pos ⟨by omega, c⟩, if_pos ⟨by omega, c⟩]; exact ⟨rfl, rfl⟩
        · rw [ua_ne _ _ g, ua_ne _ _ g, ua_ne _ _ (by omega), ua_ne _ _ (by omega), q2 i g, q2 i g]
          exact a1 i q
      · rw [ua_ne _ _ (by omega), ua_at, av.1, a2]; omega
      · rw [ua_ne _ _ (by omega), ua_at, av.2, a3]; omega
    · have e : wdS Pl Pu Sp (v + 1) = wdS Pl Pu Sp v := by
        show (if ¬ v = 12 ∧ (wdS Pl Pu Sp v).2 v ≤ Sp v then _ else _) = _
        rw [if_neg (fun z => c (by rw [← av.2]; exact z.2))]
      rw [e, if_neg c, if_neg c]
      refine ⟨fun i q => ?_, by omega, by omega⟩
      by_cases g : i = v
      · subst g
        rw [if_neg (fun z => c z.2), if_neg (fun z => c z.2)]; exact av
      · rw [q2 i g, q2 i g]
        exact a1 i q
/-- of one class, by wires -/
theorem cls_sum {wdb : Nat → Bool} {W D : Nat → Int} {n c : Nat} (hW : ∀ x, x < n → 0 ≤ W x ∧ W x ≤ 11) (hc : c < 13) : su9 (fun x => if cl9 wdb W x = c then D x else 0) n = if c = 12 then su9 (fun w => if wdb w = true then su9 (fun x => if W x = (w : Int) then D x else 0) n else 0) 12 else if wdb c = true then 0 else su9 (fun x => if W x = (c : Int) then D x else 0) n := by
  by_cases e : c = 12
  · subst e
    rw [if_pos rfl]
    have sw := su9_sw (fun w x => if wdb w = true then (if W x = (w : Int) then D x else 0) else 0) 12 n
    rw [su9_eq (g := fun w => su9 (fun x => if wdb w = true then (if W x = (w : Int) then D x else 0) else 0) n) 12 (fun w _ => by
      by_cases z : wdb w = true
      · rw [if_pos z]; exact su9_eq n (fun x _ => (if_pos z).symm)
      · rw [if_neg z]; exact (su9_z n (fun x _ => if_neg z)).symm), ← sw]
    refine su9_eq n (fun x hx => ?_)
    have wx := hW x hx
    have pt := su9_pt (fun w => if wdb w = true then D x else 0) (v := (W x).toNat) (n := 12) (by omega)
    rw [su9_eq (f := fun w => if wdb w = true then (if W x = (w : Int) then D x else 0) else 0) (g := fun w => if w = (W x).toNat then (if wdb w = true then D x else 0) else 0) 12 (fun w _ => by
      by_cases z : w = (W x).toNat
      · rw [if_pos z, if_pos (by omega : W x = (w : Int))]
      · rw [if_neg z, if_neg (by omega : ¬ W x = (w : Int))]; split <;> rfl), pt]
    unfold cl9
    by_cases z : wdb (W x).toNat = true
    · rw [if_pos z, if_pos rfl, if_pos z]
    · rw [if_neg z, if_neg (by omega), if_neg z]
  · rw [if_neg e]
    by_cases z : wdb c = true
    · rw [if_pos z]
      refine su9_z n (fun x hx => if_neg (fun y => ?_))
      have wx := hW x hx
      unfold cl9 at y
      split at y
      · exact e y.symm
      · next g => rw [y] at g; exact g z
    · rw [if_neg z]
      refine su9_eq n (fun x hx => ?_)
      have i := cl_w (wdb := wdb) (hW x hx) (by omega : c < 12) (by cases h : wdb c with | true => exact absurd h z | false => rfl)
      by_cases y : W x = (c : Int)
      · rw [if_pos (i.2 y), if_pos y]
      · rw [if_neg (fun q => y (i.1 q)), if_neg y]
