/-! image -/
/-- a new holder's cells -/
def T00 (n e0 : Nat) : Nat → Nat → Int := fun j => if j = 1 then ua (ua (ua (fun _ => 0) 9 (-1)) 10 1) 14 (-1) else if j = 2 ∨ j = 3 ∨ j = 6 ∨ j = 7 ∨ j = 8 then lv9 0 ((e0 : Nat) : Int) 0 else if j = 5 then ua (ua (ua (ua (fun _ => (0 : Int)) 1 (-1)) 3 (-1)) 5 (-1)) 7 (-1) else if j = 10 then (fun q => if q < 3 then ((n + 18 : Nat) : Int) else -1) else fun _ => 0
theorem T00_10 (n e0 : Nat) : (fun q => if q = 2 then some (n + 18) else (fun q => if q = 1 then some (n + 18) else (fun q => if q = 0 then some (n + 18) else (fun _ => none) q) q) q) = fun q => rfv (T00 n e0 10 q) := by
  funext q
  show _ = rfv (if q < 3 then ((n + 18 : Nat) : Int) else -1)
  by_cases c : q < 3
  · rw [if_pos c, rfv_n]
    by_cases c2 : q = 2
    · rw [if_pos c2]
    · rw [if_neg c2]
      show (if q = 1 then some (n + 18) else (if q = 0 then some (n + 18) else none)) = _
      by_cases c1 : q = 1
      · rw [if_pos c1]
      · rw [if_neg c1, if_pos (by omega)]
  · rw [if_neg c, if_neg (by omega)]
    show (if q = 1 then some (n + 18) else (if q = 0 then some (n + 18) else none)) = _
    rw [if_neg (by omega), if_neg (by omega)]
    rfl
theorem zg_no {w : zcW} {a q : Nat} {x : va_E} (h : q ≠ a) : zc_u w a x q = w q := if_neg h
def newT (ar : Nat → ClassId) (e0 : Nat) (w : zcW) (n : Nat) : zcW := (zc_u (zc_u (zc_u (zc_u (zc_u (zc_u (zc_u (zc_u (zc_u (zc_u (zc_u (zc_u (zc_u (zc_u (zc_u (zc_u (zc_u (zc_u (zc_u (zc_u (zc_u (zc_u (zc_u w n (.inr (9, [.int (iz 0), .null, .null, .null, .null, .null, .null, .null, .int (iz 0), .int (iz 0), .int (iz 0), .null, .int (iz 0), .int (iz 0), .int (iz 0), .null, .int (iz 0), .null, .null, .null]))) (n + 1) (.inr (0, [.int (iz 0), .ref e0, .int (iz 0)]))) n (.inr (9, [.int (iz 0), .ref (n + 1), .ref (n + 2), .ref (n + 3), .ref (n + 4), .ref (n + 5), .ref (n + 6), .ref (n + 7), .int (iz 0), .int (iz (-1)), .int (iz 1), .ref (n + 8), .int (iz 0), .int (iz 0), .int (iz (-1)), .ref (n + 9), .int (iz 0), .ref (n + 10), .ref (n + 11), .ref (n + 17)]))) (n + 2) (.inr (0, [.int (iz 0), .ref e0, .int (iz 0)]))) (n + 3) (.inl (ar 0, 8, .inl (fun q => iz ((fun _ => (0 : Int)) q))))) (n + 4) (.inl (ar 0, 8, .inl (fun q => iz ((ua (ua (ua (ua (fun _ => (0 : Int)) 1 (-1)) 3 (-1)) 5 (-1)) 7 (-1)) q))))) (n + 5) (.inr (0, [.int (iz 0), .ref e0, .int (iz 0)]))) (n + 6) (.inr (0, [.int (iz 0), .ref e0, .int (iz 0)]))) (n + 7) (.inr (0, [.int (iz 0), .ref e0, .int (iz 0)]))) (n + 8) (.inl (ar 1, 500, .inl (fun q => iz ((fun _ => (0 : Int)) q))))) (n + 9) (.inl (ar 3, 3, .inr (.inr (.inr (.inr (fun q => if q = 2 then some (n + 18) else (fun q => if q = 1 then some (n + 18) else (fun q => if q = 0 then some (n + 18) else (fun _ => none) q) q) q))))))) (n + 10) (.inl (ar 0, 120, .inl (fun q => iz ((fun _ => (0 : Int)) q))))) (n + 11) (.inr (3, [.int (iz 0), .ref (n + 12), .ref (n + 13), .int (iz 0), .ref (n + 14), .ref (n + 15), .ref (n + 16)]))) (n + 12) (.inl (ar 0, 6, .inl (fun q => iz ((fun _ => (0 : Int)) q))))) (n + 13) (.inl (ar 0, 36, .inl (fun q => iz ((fun _ => (0 : Int)) q))))) (n + 14) (.inl (ar 0, 6, .inl (fun q => iz ((fun _ => (0 : Int)) q))))) (n + 15) (.inl (ar 0, 6, .inl (fun q => iz ((fun _ => (0 : Int)) q))))) (n + 16) (.inl (ar 0, 7, .inl (fun q => iz ((fun _ => (0 : Int)) q))))) (n + 17) (.inl (ar 0, 9, .inl (fun q => iz ((fun _ => (0 : Int)) q))))) (n + 18) (.inr (2, [.int (iz 0), .ref (n + 19), .ref (n + 20), .ref (n + 21)]))) (n + 19) (.inl (ar 0, 16, .inl (fun q => iz ((fun _ => (0 : Int)) q))))) (n + 20) (.inl (ar 0, 16, .inl (fun q => iz ((fun _ => (0 : Int)) q))))) (n + 21) (.inl (ar 0, 256, .inl (fun q => iz ((fun _ => (0 : Int)) q)))))
theorem newT_o {ar : Nat → ClassId} {e0 : Nat} {w : zcW} {n a : Nat} (h : a < n ∨ n + 22 ≤ a) : newT ar e0 w n a = w a := by
  unfold newT
  rw [zg_no (by omega), zg_no (by omega), zg_no (by omega), zg_no (by omega), zg_no (by omega), zg_no (by omega), zg_no (by omega), zg_no (by omega), zg_no (by omega), zg_no (by omega), zg_no (by omega), zg_no (by omega), zg_no (by omega), zg_no (by omega), zg_no (by omega), zg_no (by omega), zg_no (by omega), zg_no (by omega), zg_no (by omega), zg_no (by omega), zg_no (by omega), zg_no (by omega), zg_no (by omega)]
set_option maxRecDepth 100000 in
theorem newT_c {ar : Nat → ClassId} {e0 : Nat} {w : zcW} (x : Nat) {j : Nat} (hj : 1 ≤ j ∧ j ≤ 18) : newT ar e0 w (x + 1) (x + j) = gcell ar x (T00 (x + 1) e0 j) j := by
  have rv : va_rf (rfv ((e0 : Nat) : Int)) = .ref e0 := by rw [rfv_n]; rfl
  rcases (by omega : j = 1 ∨ j = 2 ∨ j = 3 ∨ j = 4 ∨ j = 5 ∨ j = 6 ∨ j = 7 ∨ j = 8 ∨ j = 9 ∨ j = 10 ∨ j = 11 ∨ j = 12 ∨ j = 13 ∨ j = 14 ∨ j = 15 ∨ j = 16 ∨ j = 17 ∨ j = 18) with rfl | rfl | rfl | rfl | rfl | rfl | rfl | rfl | rfl | rfl | rfl | rfl | rfl | rfl | rfl | rfl | rfl | rfl
  · unfold newT
    exact (zg_ne (by omega) (zg_ne (by omega) (zg_ne (by omega) (zg_ne (by omega) (zg_ne (by omega) (zg_ne (by omega) (zg_ne (by omega) (zg_ne (by omega) (zg_ne (by omega) (zg_ne (by omega) (zg_ne (by omega) (zg_ne (by omega) (zg_ne (by omega) (zg_ne (by omega) (zg_ne (by omega) (zg_ne (by omega) (zg_ne (by omega) (zg_ne (by omega) (zg_ne (by omega) (zg_ne (by omega) zg_at)))))))))))))))))))).trans (rfl)
  · unfold newT
    exact (zg_ne (by omega) (zg_ne (by omega) (zg_ne (by omega) (zg_ne (by omega) (zg_ne (by omega) (zg_ne (by omega) (zg_ne (by omega) (zg_ne (by omega) (zg_ne (by omega) (zg_ne (by omega) (zg_ne (by omega) (zg_ne (by omega) (zg_ne (by omega) (zg_ne (by omega) (zg_ne (by omega) (zg_ne (by omega) (zg_ne (by omega) (zg_ne (by omega) (zg_ne (by omega) (zg_ne (by omega) (zg_ne (by omega) zg_at))))))))))))))))))))).trans (by show _ = some (Sum.inr (0, [.int (iz 0), va_rf (rfv ((e0 : Nat) : Int)), .int (iz 0)])); rw [rv])
  · unfold newT
    exact (zg_ne (by omega) (zg_ne (by omega) (zg_ne (by omega) (zg_ne (by omega) (zg_ne (by omega) (zg_ne (by omega) (zg_ne (by omega) (zg_ne (by omega) (zg_ne (by omega) (zg_ne (by omega) (zg_ne (by omega) (zg_ne (by omega) (zg_ne (by omega) (zg_ne (by omega) (zg_ne (by omega) (zg_ne (by omega) (zg_ne (by omega) (zg_ne (by omega) (zg_ne (by omega) zg_at))))))))))))))))))).trans (by show _ = some (Sum.inr (0, [.int (iz 0), va_rf (rfv ((e0 : Nat) : Int)), .int (iz 0)])); rw [rv])
  · unfold newT
    exact (zg_ne (by omega) (zg_ne (by omega) (zg_ne (by omega) (zg_ne (by omega) (zg_ne (by omega) (zg_ne (by omega) (zg_ne (by omega) (zg_ne (by omega) (zg_ne (by omega) (zg_ne (by omega) (zg_ne (by omega) (zg_ne (by omega) (zg_ne (by omega) (zg_ne (by omega) (zg_ne (by omega) (zg_ne (by omega) (zg_ne (by omega) (zg_ne (by omega) zg_at)))))))))))))))))).trans (rfl)
  · unfold newT
    exact (zg_ne (by omega) (zg_ne (by omega) (zg_ne (by omega) (zg_ne (by omega) (zg_ne (by omega) (zg_ne (by omega) (zg_ne (by omega) (zg_ne (by omega) (zg_ne (by omega) (zg_ne (by omega) (zg_ne (by omega) (zg_ne (by omega) (zg_ne (by omega) (zg_ne (by omega) (zg_ne (by omega) (zg_ne (by omega) (zg_ne (by omega) zg_at))))))))))))))))).trans (rfl)
  · unfold newT
    exact (zg_ne (by omega) (zg_ne (by omega) (zg_ne (by omega) (zg_ne (by omega) (zg_ne (by omega) (zg_ne (by omega) (zg_ne (by omega) (zg_ne (by omega) (zg_ne (by omega) (zg_ne (by omega) (zg_ne (by omega) (zg_ne (by omega) (zg_ne (by omega) (zg_ne (by omega) (zg_ne (by omega) (zg_ne (by omega) zg_at)))))))))))))))).trans (by show _ = some (Sum.inr (0, [.int (iz 0), va_rf (rfv ((e0 : Nat) : Int)), .int (iz 0)])); rw [rv])
  · unfold newT
    exact (zg_ne (by omega) (zg_ne (by omega) (zg_ne (by omega) (zg_ne (by omega) (zg_ne (by omega) (zg_ne (by omega) (zg_ne (by omega) (zg_ne (by omega) (zg_ne (by omega) (zg_ne (by omega) (zg_ne (by omega) (zg_ne (by omega) (zg_ne (by omega) (zg_ne (by omega) (zg_ne (by omega) zg_at))))))))))))))).trans (by show _ = some (Sum.inr (0, [.int (iz 0), va_rf (rfv ((e0 : Nat) : Int)), .int (iz 0)])); rw [rv])
  · unfold newT
    exact (zg_ne (by omega) (zg_ne (by omega) (zg_ne (by omega) (zg_ne (by omega) (zg_ne (by omega) (zg_ne (by omega) (zg_ne (by omega) (zg_ne (by omega) (zg_ne (by omega) (zg_ne (by omega) (zg_ne (by omega) (zg_ne (by omega) (zg_ne (by omega) (zg_ne (by omega) zg_at)))))))))))))).trans (by show _ = some (Sum.inr (0, [.int (iz 0), va_rf (rfv ((e0 : Nat) : Int)), .int (iz 0)])); rw [rv])
  · unfold newT
    exact (zg_ne (by omega) (zg_ne (by omega) (zg_ne (by omega) (zg_ne (by omega) (zg_ne (by omega) (zg_ne (by omega) (zg_ne (by omega) (zg_ne (by omega) (zg_ne (by omega) (zg_ne (by omega) (zg_ne (by omega) (zg_ne (by omega) (zg_ne (by omega) zg_at))))))))))))).trans (rfl)
  · unfold newT
    exact (zg_ne (by omega) (zg_ne (by omega) (zg_ne (by omega) (zg_ne (by omega) (zg_ne (by omega) (zg_ne (by omega) (zg_ne (by omega) (zg_ne (by omega) (zg_ne (by omega) (zg_ne (by omega) (zg_ne (by omega) (zg_ne (by omega) zg_at)))))))))))).trans (by rw [T00_10 (x + 1) e0]; rfl)
  · unfold newT
    exact (zg_ne (by omega) (zg_ne (by omega) (zg_ne (by omega) (zg_ne (by omega) (zg_ne (by omega) (zg_ne (by omega) (zg_ne (by omega) (zg_ne (by omega) (zg_ne (by omega) (zg_ne (by omega) (zg_ne (by omega) zg_at))))))))))).trans (rfl)
  · unfold newT
    exact (zg_ne (by omega) (zg_ne (by omega) (zg_ne (by omega) (zg_ne (by omega) (zg_ne (by omega) (zg_ne (by omega) (zg_ne (by omega) (zg_ne (by omega) (zg_ne (by omega) (zg_ne (by omega) zg_at)))))))))).trans (rfl)
  · unfold newT
    exact (zg_ne (by omega) (zg_ne (by omega) (zg_ne (by omega) (zg_ne (by omega) (zg_ne (by omega) (zg_ne (by omega) (zg_ne (by omega) (zg_ne (by omega) (zg_ne (by omega) zg_at))))))))).trans (rfl)
  · unfold newT
    exact (zg_ne (by omega) (zg_ne (by omega) (zg_ne (by omega) (zg_ne (by omega) (zg_ne (by omega) (zg_ne (by omega) (zg_ne (by omega) (zg_ne (by omega) zg_at)))))))).trans (rfl)
  · unfold newT
    exact (zg_ne (by omega) (zg_ne (by omega) (zg_ne (by omega) (zg_ne (by omega) (zg_ne (by omega) (zg_ne (by omega) (zg_ne (by omega) zg_at))))))).trans (rfl)
  · unfold newT
    exact (zg_ne (by omega) (zg_ne (by omega) (zg_ne (by omega) (zg_ne (by omega) (zg_ne (by omega) (zg_ne (by omega) zg_at)))))).trans (rfl)
  · unfold newT
    exact (zg_ne (by omega) (zg_ne (by omega) (zg_ne (by omega) (zg_ne (by omega) (zg_ne (by omega) zg_at))))).trans (rfl)
  · unfold newT
    exact (zg_ne (by omega) (zg_ne (by omega) (zg_ne (by omega) (zg_ne (by omega) zg_at)))).trans (rfl)
section IMG
variable {ar : Nat → ClassId} {b : Nat} {w0 : zcW} {n e0 : Nat} {σ τ : Nat → Nat → Int} {Ow : Nat → Nat}
/-- what is there when an image has been made -/
def PT9 (ar : Nat → ClassId) (b : Nat) (w0 : zcW) (n e0 : Nat) (Ow : Nat → Nat) (σ τ : Nat → Nat → Int) (k x : Nat) (T : Nat → Nat → Int) : Prop := Hk9 ar b w0 n e0 Ow 0 (σ 1) τ ∧ (∀ q, q < 3 → q ≠ k → Ik9 ar b w0 n e0 Ow σ τ q) ∧ (∀ a, n ≤ a → w0 a = none) ∧ (b + 51 ≤ n ∧ e0 < b) ∧ τ 23 k = ((x + 1 : Nat) : Int) ∧ Im9 ar b w0 n Ow k x T ∧ LQ9 ar b w0 n e0 Ow (100 * (k + 1)) T
/-- a new image -/
theorem pt_new {k : Nat} {w9 : zcW} (hk : k < 3) (hC : CI9 ar b w0 n e0 Ow σ τ) (h9 : w9 = zc_u (newT ar e0 (cw ar b τ w0) n) (b + 23) (.inl (ar 4, 3, .inr (.inr (.inr (.inr (fun q => if q = k then some n else rfv (τ 23 q)))))))) : ∃ (τ9 : Nat → Nat → Int) (Ow9 : Nat → Nat) (x : Nat) (T : Nat → Nat → Int), w9 = cw ar b τ9 w9 ∧ x + 1 = n ∧ PT9 ar b w9 (n + 22) e0 Ow9 σ τ9 k x T := by
  obtain ⟨hH, hI, hfree, hn, he0⟩ := hC
  obtain ⟨x, hx⟩ : ∃ x : Nat, n = x + 1 := ⟨n - 1, by omega⟩
  subst hx
  have keep : ∀ a, nf9 b a → a < x + 1 → w9 a = w0 a := by
    intro a h1 h2
    rw [h9]
    show (if a = b + 23 then _ else _) = _
    rw [if_neg (by unfold nf9 at h1; omega), newT_o (Or.inl h2), cw_nf h1]
  have kg : kg9 ar b w0 w9 := ⟨fun p ci fs h1 h2 _ _ _ => keep p h1 (lt_free hfree h2), fun p N f h1 h2 _ => keep p h1 (lt_free hfree h2)⟩
  have ka : ∀ (off : Nat) (U : Nat → Nat → Int), LQ9 ar b w0 (x + 1) e0 Ow off U → ∀ j, isj9 j → ak9 e0 w0 w9 (U j) := by
    intro off U hU j hj e t1 ne
    obtain ⟨a1, a2, a3⟩ := ls_n (hU j hj).1
    have ee : e = (U j 1).toNat := by omega
    rcases a3 with q | ⟨q1, q2, _⟩
    · omega
    · rw [← ee] at q1 q2
      exact keep e q1 q2
  let τ9 : Nat → Nat → Int := sA τ 23 (ua (τ 23) k ((x + 1 : Nat) : Int))
  let Ow9 : Nat → Nat := fun a => if a < x + 1 then Ow a else 10 + k
  have hO : ∀ a, a < x + 1 → Ow9 a = Ow a := fun a ha => if_pos ha
  have tj : ∀ j, j ≠ 23 → τ9 j = τ j := fun j hj => sA_ne _ _ hj
  have LQt : ∀ {n2 off : Nat} {O2 : Nat → Nat} {w2 : zcW}, LQ9 ar b w2 n2 e0 O2 off τ → LQ9 ar b w2 n2 e0 O2 off τ9 := by
    intro n2 off O2 w2 h j hj
    rw [tj j (by have := isj_lt hj; omega)]
    exact h j hj
  refine ⟨τ9, Ow9, x, T00 (x + 1) e0, (cw_fold (fun j X hX => ?_)).symm, rfl, ⟨rl_sA (by decide) (kg_rel kg hH.2.1 (ka 0 τ hH.2.1) hH.1), LQt (kg_lq kg (by omega) hO hH.2.1 (ka 0 τ hH.2.1) hH.1), ?_, ?_⟩, fun q hq hne => ?_, fun a ha => ?_, ⟨by omega, he0⟩, ?_, ⟨by omega, by omega, fun j hj => ?_, fun i hi => ?_⟩, fun j hj => ?_⟩
  · have j47 : ¬ ((19 ≤ j ∧ j < 23) ∨ 47 ≤ j) := fun z => by rw [gcell_none ar b _ z] at hX; exact absurd hX (by simp)
    rw [h9]
    show (if b + j = b + 23 then _ else _) = _
    by_cases c : j = 23
    · subst c
      rw [if_pos rfl, ← hX]
      have ef : (fun q => if q = k then some (x + 1) else rfv (τ 23 q)) = fun q => rfv (τ9 23 q) := by
        funext q
        show _ = rfv (sA τ 23 (ua (τ 23) k ((x + 1 : Nat) : Int)) 23 q)
        rw [sA_at]
        unfold ua
        by_cases c : q = k
        · rw [if_pos c, if_pos c, rfv_n]
        · rw [if_neg c, if_neg c]
      rw [ef]
      rfl
    · rw [if_neg (by omega), newT_o (Or.inl (by omega))]
      rw [tj j c] at hX
      exact cw_at j hX
  · intro i hi
    rw [tj 9 (by decide)]; exact hH.2.2.1 i hi
  · intro i hi
    rw [tj 13 (by decide)]; exact hH.2.2.2 i hi
  · have e23 : τ9 23 q = τ 23 q := by
      show sA τ 23 (ua (τ 23) k ((x + 1 : Nat) : Int)) 23 q = _
      rw [sA_at, ua_ne _ _ hne]
    rcases hI q hq with ⟨y1, y2⟩ | ⟨y1, x2, T2, y2, y3, y4⟩
    · exact Or.inl ⟨by rw [e23]; exact y1, y2⟩
    · have l1 := y3.1
      have l2 := y3.2.1
      exact Or.inr ⟨y1, x2, T2, by rw [e23]; exact y2, ⟨by omega, y3.2.1, fun j hj => by rw [keep (x2 + j) (Or.inr (Or.inr (by omega))) (by omega)]; exact y3.2.2.1 j hj, fun i hi => by rw [hO _ (by omega)]; exact y3.2.2.2 i hi⟩, kg_rel kg y4.2.1 (ka _ T2 y4.2.1) y4.1, kg_lq kg (by omega) hO y4.2.1 (ka _ T2 y4.2.1) y4.1, y4.2.2⟩
  · rw [h9]
    show (if a = b + 23 then _ else _) = _
    rw [if_neg (by omega), newT_o (Or.inr (by omega)), cw_nf (Or.inr (Or.inr (by omega)))]
    exact hfree a (by omega)
  · show sA τ 23 (ua (τ 23) k ((x + 1 : Nat) : Int)) 23 k = _
    rw [sA_at, ua_at]
  · rw [h9]
    show (if x + j = b + 23 then _ else _) = _
    rw [if_neg (by omega)]
    exact newT_c x hj
  · exact if_neg (by omega)
  · have e1 : T00 (x + 1) e0 j = lv9 0 ((e0 : Nat) : Int) 0 := by
      rcases hj with rfl | rfl | rfl | rfl | rfl <;> rfl
    rw [e1]
    exact ⟨Or.inl ⟨rfl, rfl⟩, fun e t1 ne => absurd (by have q : ((e0 : Nat) : Int) = (e : Int) := t1; omega) ne⟩
theorem pt_old {k x : Nat} {T : Nat → Nat → Int} (hC : CI9 ar b w0 n e0 Ow σ τ) (y2 : τ 23 k = ((x + 1 : Nat) : Int)) (y3 : Im9 ar b w0 n Ow k x T) (y4 : Hk9 ar b w0 n e0 Ow (100 * (k + 1)) (shf9 σ k) T) : PT9 ar b w0 n e0 Ow σ τ k x T := ⟨hC.1, fun q hq _ => hC.2.1 q hq, hC.2.2.1, ⟨hC.2.2.2.1, hC.2.2.2.2⟩, y2, y3, y4.2.1⟩
end IMG
section IMT
variable {p : Program} {l : Launch} {e : Env} {s : State} {m : MethodId} {args : Array Value} {below : List Frame} {meth : Method} {c : Code} {D : va_G} {ar : Nat → ClassId} {B : Nat → Prop} {b n nn : Nat} {w0 : zcW} {o : olP} {σ τ : Nat → Nat → Int} {Ow : Nat → Nat} {Po : Option Value → zcW → Nat → Prop}
set_option maxRecDepth 100000 in
set_option maxHeartbeats 4000000 in
theorem im_take {q x : Nat} {T : Nat → Nat → Int} (C : CallFix p m c cX11_image 4 s args hk_tb RX11) (K : clK D ar s) (O : olk B o s) (hr : meth.sig.returnType = some .boolean) (hlk : meth.locks = false) (q3 : q < 3) (hM : Ms9 σ) (hT : PT9 ar b w0 n o.2.1 Ow σ τ q x T) (hB : ∀ a, B a → b ≤ a) (hPo : ∀ (w9 : zcW) (n9 : Nat) (Ow9 : Nat → Nat), n ≤ n9 → CI9 ar b w9 n9 o.2.1 Ow9 (sA (u2 σ 2 q (xb true)) 1 (im (σ 1) q 2260)) τ → Po (some (.int (iz (xb true)))) (cw ar b τ w9) n9) : hvV p l e { frames := 9, cells := 130, slots := 7523, locals := 340 } s m args below meth c 4 B 22 1043 (MQ below (zc_Q D B Po) args s 130 7523 B) (zc_I D B (cw ar b τ w0) n s.heap) 33 [(0, .ref b), (1, .int (iz ((q : Nat) : Int)))] [] := by
  obtain ⟨hH, hI, hfree, ⟨hn, he0⟩, y2, y3, y4⟩ := hT
  refine hv_aload_n C 0 0 dX11_image_33 rfl rfl ?_
  refine zc_get C K (v := .ref (b + 23)) 1 rfl hu_12 (by decide) cw_0 rfl fl_X11_16 rfl dX11_image_34 ?_
  refine hv_iload_n C 1 1 dX11_image_37 rfl rfl ?_
  refine zc_aald C K (f := (fun i => rfv (τ 23 i))) 4 q (cw_at 23 rfl) rfl rfl q3 (by decide) dX11_image_38 ?_
  refine hv_asv (.ref (x + 1)) (by show va_rf (rfv (τ 23 q)) = _; rw [y2, rfv_n]; rfl) ?_
  refine hv_aload_n C 0 0 dX11_image_39 rfl rfl ?_
  refine zc_get C K (v := .ref (b + 1)) 0 rfl hu_12 (by decide) cw_0 rfl fl_X11_10 rfl dX11_image_40 ?_
  obtain ⟨P, hP⟩ := rl_P hH.1
  refine fun H locs ls z1 z2 z3 => ?_
  have hlow := cw_h z1.2.2.1 hB
  refine (?_ : hvV p l e { frames := 9, cells := 130, slots := 7523, locals := 340 } s m args below meth c 4 B 22 1043 _ (zc_I D B (cw ar b τ w0) n s.heap) 43 [(0, .ref b), (1, .int (iz ((q : Nat) : Int)))] [.ref (b + 1), .ref (x + 1)]) H locs ls z1 z2 z3
  have hx := y3.2.1
  have hxn := y3.1
  have wx : cw ar b τ w0 (x + 1) = gcell ar x (T 1) 1 := by rw [cw_nf (Or.inr (Or.inr (by omega)))]; exact y3.2.2.1 1 (by decide)
  refine zo_callV [.ref (b + 1)] [] C K O wx rfl (g_take l (x := x) (y := b) (T := T) (θ := τ) (A := σ 1) hM.2.1.1 rfl hfree hlow ⟨by omega, by omega, by omega⟩ he0 ⟨by omega, Nat.le_refl _⟩ (by omega) (fun j hj => ?_) (fun j hj => ?_) (y3.blk q3) (Or.inl rfl) y4 (by omega) hH.2.1 (by decide) (by omega) hH.1 hH.2.2.1 hB hP) ck_X11_299 (by decide) (by decide) rfl (Nat.le_of_ble_eq_true rfl) dX11_image_43 ?_
  · rw [cw_nf (Or.inr (Or.inr (by omega)))]; exact y3.2.2.1 j hj
  · rcases (by omega : j = 1 ∨ j = 2 ∨ j = 3 ∨ j = 4 ∨ j = 5 ∨ j = 6 ∨ j = 7 ∨ j = 8 ∨ j = 9 ∨ j = 10 ∨ j = 11 ∨ j = 12 ∨ j = 13 ∨ j = 14 ∨ j = 15 ∨ j = 16 ∨ j = 17 ∨ j = 18) with rfl | rfl | rfl | rfl | rfl | rfl | rfl | rfl | rfl | rfl | rfl | rfl | rfl | rfl | rfl | rfl | rfl | rfl <;> exact cw_at _ rfl
  rintro r' w' n' ⟨h1, w1, E, hS, hK⟩
  subst h1
  obtain ⟨f1, Ow9, f2⟩ := ci_image q3 hM hH hI hfree hn he0 hlow y2 y3 y4 rfl hP hS hK
  refine hv_iconst C dX11_image_46 ?_
  refine zc_zret C hr hlk (v := true) rfl ?_ dX11_image_47
  rw [← f1]
  exact hPo w' n' Ow9 hS.2.2.1 f2
end IMT
set_option maxRecDepth 100000 in
set_option maxHeartbeats 4000000 in
theorem s_X11_image (l : Launch) {D : va_G} {ar : Nat → ClassId} {B : Nat → Prop} {b n : Nat} {w0 : zcW} {o : olP} (σ τ : Nat → Nat → Int) (k : Int) (Ow : Nat → Nat) (hM : Ms9 σ) (hC : CI9 ar b w0 n o.2.1 Ow σ τ) (hB : ∀ q, B q → b ≤ q) (r_k : inI k) : zo_M l D ar B o yX11_image cX11_image 4 (some .boolean) 9 340 130 7523 [.ref b, .int (iz k)] (cw ar b τ w0) n (fun r' w' n' => r' = some (.int (iz (xb (decide (0 ≤ k ∧ k ≤ 2))))) ∧ n ≤ n' ∧ ∃ (τ9 : Nat → Nat → Int) (w9 : zcW) (Ow9 : Nat → Nat), w' = cw ar b τ9 w9 ∧ CI9 ar b w9 n' o.2.1 Ow9 (if 0 ≤ k ∧ k ≤ 2 then sA (u2 σ 2 k.toNat (xb true)) 1 (im (σ 1) k.toNat 2260) else σ) τ9) := by
  refine zo_start (own := RX11) (by decide +kernel) rfl (Nat.le_of_ble_eq_true rfl) ?_
  intro p e s m args below meth c C K O hz hr hlk hnam
  refine hv_iload_n C 1 1 dX11_image_0 rfl rfl ?_
  refine hv_iconst C dX11_image_1 ?_
  refine hv_iconst C dX11_image_2 ?_
  refine zt_callS [.int (iz k), .int (iz 0), .int (iz 2)] [] C K (k_X11_within l τ k 0 2 r_k (by decide) (by decide)) ck_X11_62 (by decide) ⟨Nat.zero_le _, Nat.zero_le _⟩ rfl (Nat.le_of_ble_eq_true rfl) dX11_image_3 ?_
  refine hv_as (xb (decide (0 ≤ k ∧ k ≤ 2))) rfl ?_
  refine hv_dif_ne C 11 dX11_image_6 (by decide) (fun h6 => ?_) (fun h6 => ?_)
  · skip
    obtain ⟨q, rfl⟩ : ∃ q : Nat, k = (q : Int) := ⟨k.toNat, by omega⟩
    have q3 : q < 3 := by omega
    have hPo : ∀ (n1 : Nat), n ≤ n1 → ∀ (τ9 : Nat → Nat → Int) (w9 : zcW) (n9 : Nat) (Ow9 : Nat → Nat), n1 ≤ n9 → CI9 ar b w9 n9 o.2.1 Ow9 (sA (u2 σ 2 q (xb true)) 1 (im (σ 1) q 2260)) τ9 → (fun (r' : Option Value) (w' : zcW) (n' : Nat) => r' = some (.int (iz (xb (decide (0 ≤ ((q : Nat) : Int) ∧ ((q : Nat) : Int) ≤ 2))))) ∧ n ≤ n' ∧ ∃ (τ9 : Nat → Nat → Int) (w9 : zcW) (Ow9 : Nat → Nat), w' = cw ar b τ9 w9 ∧ CI9 ar b w9 n' o.2.1 Ow9 (if 0 ≤ ((q : Nat) : Int) ∧ ((q : Nat) : Int) ≤ 2 then sA (u2 σ 2 ((q : Nat) : Int).toNat (xb true)) 1 (im (σ 1) ((q : Nat) : Int).toNat 2260) else σ) τ9) (some (.int (iz (xb true)))) (cw ar b τ9 w9) n9 := by
      intro n1 hn1 τ9 w9 n9 Ow9 h1 h2
      refine ⟨by rw [decide_eq_true h6], by omega, τ9, w9, Ow9, rfl, ?_⟩
      rw [if_pos h6, Int.toNat_natCast]
      exact h2
    refine hv_aload_n C 0 0 dX11_image_11 rfl rfl ?_
    refine zc_get C K (v := .ref (b + 23)) 1 rfl hu_12 (by decide) cw_0 rfl fl_X11_16 rfl dX11_image_12 ?_
    refine hv_iload_n C 1 1 dX11_image_15 rfl rfl ?_
    refine zc_aald C K (f := (fun i => rfv (τ 23 i))) 4 q (cw_at 23 rfl) rfl rfl q3 (by decide) dX11_image_16 ?_
    rcases hC.2.1 q q3 with ⟨y1, y2⟩ | ⟨y1, x, T, y2, y3, y4⟩
    · refine hv_asv .null (by show va_rf (rfv (τ 23 q)) = _; unfold rfv; rw [if_pos y1]; rfl) ?_
      refine hv_nnN C dX11_image_17 ?_
      refine hv_aload_n C 0 0 dX11_image_20 rfl rfl ?_
      refine zc_get C K (v := .ref (b + 23)) 1 rfl hu_12 (by decide) cw_0 rfl fl_X11_16 rfl dX11_image_21 ?_
      refine hv_iload_n C 1 1 dX11_image_24 rfl rfl ?_
      refine zg_new (ci := 9) C K [.int (iz 0), .null, .null, .null, .null, .null, .null, .null, .int (iz 0), .int (iz 0), .int (iz 0), .null, .int (iz 0), .int (iz 0), .int (iz 0), .null, .int (iz 0), .null, .null, .null] rfl hu_9 tyX8 tyX8_ok cl_X11_7 is_X8 it_X8 (df_X8) (by decide) dX11_image_25 (n2 := (n + 1)) rfl ?_
      refine hv_dup C dX11_image_28 rfl ?_
      have hn := hC.2.2.2.1
      refine zgo_callI [] [.ref n, .int (iz ((q : Nat) : Int)), .ref (b + 23)] C K O (g_X8_init l (by omega) zg_at) ci_X11_9 (by decide) (by decide) rfl (Nat.le_of_ble_eq_true rfl) dX11_image_29 (w2 := newT ar o.2.1 (cw ar b τ w0) n) (n2 := n + 22) (fun r' w' n' h => ⟨h.1, h.2.1.trans (by unfold newT; rfl), h.2.2.trans rfl⟩) ?_
      have h23 : newT ar o.2.1 (cw ar b τ w0) n (b + 23) = some (.inl (ar 4, 3, .inr (.inr (.inr (.inr (fun i => rfv (τ 23 i))))))) := by rw [newT_o (Or.inl (by omega))]; exact cw_at 23 rfl
      have hnn : ∃ vs, newT ar o.2.1 (cw ar b τ w0) n n = some (.inr (9, vs)) := by
        obtain ⟨x, rfl⟩ : ∃ x, n = x + 1 := ⟨n - 1, by omega⟩
        exact ⟨_, newT_c x (j := 1) (by decide)⟩
      obtain ⟨vs, hvs⟩ := hnn
      obtain ⟨w9, hw9⟩ : ∃ w9 : zcW, w9 = zc_u (newT ar o.2.1 (cw ar b τ w0) n) (b + 23) (.inl (ar 4, 3, .inr (.inr (.inr (.inr (fun i => if i = q then some n else rfv (τ 23 i))))))) := ⟨_, rfl⟩
      refine zc_aast C K (w2 := w9) (f := (fun i => rfv (τ 23 i))) 4 q h23 rfl hvs rfl (Or.inr rfl) hw9.symm rfl q3 (by decide) dX11_image_32 ?_
      obtain ⟨τ9, Ow9, x, T, f1, f2, f3⟩ := pt_new q3 hC hw9
      rw [f1]
      exact im_take C K O hr hlk q3 hM f3 hB (hPo (n + 22) (by omega) τ9)
    · refine hv_asv (.ref (x + 1)) (by show va_rf (rfv (τ 23 q)) = _; rw [y2, rfv_n]; rfl) ?_
      refine hv_nn C 33 dX11_image_17 (by decide) ?_
      refine hv_widen 22 1043 (by decide) (by decide) ?_
      exact im_take C K O hr hlk q3 hM (pt_old hC y2 y3 y4) hB (hPo n (Nat.le_refl _) τ)
  · skip
    refine hv_iconst C dX11_image_9 ?_
    refine hv_widen 130 7523 (by decide) (by decide) ?_
    refine zc_zret C hr hlk (v := decide (0 ≤ k ∧ k ≤ 2)) (xb_f (decide_eq_false h6)).symm ⟨rfl, Nat.le_refl _, τ, w0, Ow, rfl, ?_⟩ dX11_image_10
    rw [if_neg h6]; exact hC

