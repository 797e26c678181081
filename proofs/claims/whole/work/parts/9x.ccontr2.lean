/-! contract, all told -/
def tb9 (A : Nat → Int) : Prop := ∀ i : Nat, (i : Int) < A 10 → 0 ≤ A (1760 + i) ∧ A (1760 + i) ≤ 255
section CCX
variable {ar : Nat → ClassId} {b : Nat} {w0 w9 : zcW} {n n9 e0 : Nat} {A A2 : Nat → Int} {σ τ T S : Nat → Nat → Int} {Ow : Nat → Nat}
theorem byn_tb (hc : 0 ≤ A 10 ∧ A 10 ≤ 500) (h : tb9 A) : byn9 A ((A 10).toNat : Int) := by
  refine ⟨by omega, fun q h0 h1 => ?_⟩
  unfold by9
  rw [if_pos h1]
  exact (h q.toNat (by omega)).1
theorem tpr_tb (hc : 0 ≤ A 10 ∧ A 10 ≤ 500) (h : tb9 A) (hR : Rel9 ar b w0 A τ) : tpr A (A 10).toNat (τ 9) := fun i hi => ⟨hR.tape i (by omega), h i (by omega)⟩
theorem keep_rel (hC : CI9 ar b w0 n e0 Ow σ τ) (keep : ∀ a, a < n → w9 a = w0 a) : Rel9 ar b w9 (σ 1) τ := by
  obtain ⟨hH, hI, hfree, hbn, he0⟩ := hC
  have kg : kg9 ar b w0 w9 := ⟨fun p ci fs h1 h2 _ _ _ => keep p (lt_free hfree h2), fun p N f h1 h2 _ => keep p (lt_free hfree h2)⟩
  refine kg_rel kg hH.2.1 (fun j hj e t1 ne => ?_) hH.1
  obtain ⟨a1, a2, a3⟩ := ls_n (hH.2.1 j hj).1
  have ee : e = (τ j 1).toNat := by omega
  rcases a3 with q | ⟨q1, q2, _⟩
  · omega
  · rw [← ee] at q2
    exact keep e q2
theorem kw_lo {X : Nat → Nat → Int} {a : Nat} (h : a < n ∨ n + 4 ≤ a) : kw ar n X w0 a = w0 a := by
  unfold kw
  rw [if_neg (by omega), if_neg (by omega), if_neg (by omega), if_neg (by omega)]
theorem ci_contract {nw : Int} {r' : Option Value} {w' : zcW} {n' : Nat} (hM : Ms9 σ) (hC : CI9 ar b w0 n e0 Ow σ τ) (ht : tb9 (σ 1)) (h : ctP ar b (σ 1) (σ 1 10).toNat nw τ w0 n r' w' n') : r' = some (.int (iz (if ¬ (0 ≤ nw ∧ nw ≤ 2) then -2 else if ¬ ctf σ 1 11 = 0 then -1 else ctf σ 0 10))) ∧ n ≤ n' ∧ Ms9 (ctS σ nw) ∧ ∃ (τ9 : Nat → Nat → Int) (w9 : zcW) (Ow9 : Nat → Nat), w' = cw ar b τ9 w9 ∧ CI9 ar b w9 n' e0 Ow9 (ctS σ nw) τ9 := by
  have hC0 := hC
  obtain ⟨hH, hI, hfree, hbn, he0⟩ := hC
  have hcn := hM.2.1.1
  have c10 : 0 ≤ σ 1 10 ∧ σ 1 10 ≤ 500 := by unfold cn at hcn; omega
  have l8 : li (σ 1) := hM.2.1.2.2.2.2.2.2.2.2.1
  obtain ⟨ln, hln⟩ : ∃ ln : Nat, σ 1 10 = (ln : Int) := ⟨(σ 1 10).toNat, by omega⟩
  have eln : (σ 1 10).toNat = ln := by omega
  have hl : ln ≤ 500 := by omega
  rw [eln] at h
  have hbn9 := byn_tb c10 ht
  rw [eln] at hbn9
  obtain ⟨r1, r2⟩ := sp_r (A := σ 1) (ln := ln) (τ := cta τ) hl
  have sa := sm_all (pk := n) (τ := cta τ) hM.1 hbn9 hl hln (ri_rx0 r1 r2).1
  have ms := ms_ct (nw := nw) hM (fun z => (sa.2.2 z).2)
  obtain ⟨v1, v2, v3⟩ := ct0_v σ
  obtain ⟨f1, f2, f3, f4⟩ := ctf_v hM.1 c10
  have zi := hH.1.i
  unfold rlI at zi
  rcases h with ⟨ok, e1, e2, e3⟩ | ⟨ok, T, eT, e3, h⟩
  · subst e3
    refine ⟨by rw [if_pos ok]; exact e1, Nat.le_refl _, ms, cta τ, w0, Ow, e2, ?_⟩
    rw [ctS_0 ok]
    have eA : ∀ i, i ≠ 10 → i ≠ 11 → i ≠ 12 → ct0 σ 1 i = σ 1 i := fun i a c d => by rw [v1, ua_ne _ _ d, ua_ne _ _ c, ua_ne _ _ a]
    have a10 : ct0 σ 1 10 = 0 := by rw [v1]; rfl
    have a11 : ct0 σ 1 11 = 0 := by rw [v1]; rfl
    have a12 : ct0 σ 1 12 = -1 := by rw [v1]; rfl
    refine ci_ct hC0 (Nat.le_refl _) (fun _ _ => rfl) hfree (v2 2 (by decide) (by decide)) (fun i hi => eA i (by omega) (by omega) (by omega)) (fun j h1 _ _ => cta_o h1) ?_
    have c1 : cta τ 1 = ua (ua (ua (τ 1) 12 0) 13 0) 14 (-1) := sA_at _ _ _
    have rf := rel_ct (t1 := cta τ 1) (t10 := τ 10) hcn (fun i a c d e _ => eA i c d e) a10 hH.1 (by
      unfold rlI
      rw [c1, eA 0 (by decide) (by decide) (by decide), eA 8 (by decide) (by decide) (by decide), eA 9 (by decide) (by decide) (by decide), eA 13 (by decide) (by decide) (by decide), a10, a11, a12, eA 6 (by decide) (by decide) (by decide), eA 7 (by decide) (by decide) (by decide)]
      exact ⟨zi.1, zi.2.1, zi.2.2.1, zi.2.2.2.1, rfl, rfl, rfl, zi.2.2.2.2.2.2.2.1, zi.2.2.2.2.2.2.2.2⟩) (fun k hk => let ⟨p, q1, q2⟩ := hH.1.con k hk; ⟨p, q1, rlC_cq hk l8 (eA _ (by omega) (by omega) (by omega)) (fun i _ => eA _ (by omega) (by omega) (by omega)) q2⟩)
    unfold Rel9
    rw [cta_o (by decide : (2 : Nat) ≠ 1), cta_o (by decide : (3 : Nat) ≠ 1), cta_o (by decide : (4 : Nat) ≠ 1), cta_o (by decide : (5 : Nat) ≠ 1), cta_o (by decide : (6 : Nat) ≠ 1), cta_o (by decide : (7 : Nat) ≠ 1), cta_o (by decide : (8 : Nat) ≠ 1), cta_o (by decide : (9 : Nat) ≠ 1), cta_o (by decide : (10 : Nat) ≠ 1), cta_o (by decide : (11 : Nat) ≠ 1), cta_o (by decide : (12 : Nat) ≠ 1), cta_o (by decide : (13 : Nat) ≠ 1), cta_o (by decide : (14 : Nat) ≠ 1)]
    exact rf
  subst e3
  obtain ⟨nv, hnv⟩ : ∃ q : Nat, nw = (q : Int) := ⟨nw.toNat, by omega⟩
  subst hnv
  have hw : nv < 3 := by omega
  have To : ∀ j, j < 44 → j ≠ 1 → T j = τ j := fun j h1 h2 => by rw [eT, rxS_o hl h1]; exact cta_o h2
  have T1 : T 1 = ua (ua (ua (τ 1) 12 0) 13 0) 14 (-1) := by rw [eT, rxS_o hl (by decide)]; exact sA_at _ _ _
  rw [← eT] at sa
  rw [if_neg (by omega : ¬ ¬ (0 ≤ ((nv : Nat) : Int) ∧ ((nv : Nat) : Int) ≤ 2))]
  rcases h with ⟨h6, e1, e2⟩ | ⟨h6, e1, e2⟩
  · have fa : ¬ ctf σ 1 11 = 0 := by rw [← sa.1]; exact h6
    have e7 := sa.2.1 fa
    have eS : ctS σ ((nv : Nat) : Int) = ctf σ := ctS_1 (by omega) rfl fa
    rw [if_pos fa, eS] 
    rw [eS] at ms
    obtain ⟨X, hX⟩ : ∃ X, X = sA T 1 (ua (ua (T 1) 13 (T 44 6)) 14 (T 44 7)) := ⟨_, rfl⟩
    rw [← hX] at e2
    have Xo : ∀ j, j < 44 → j ≠ 1 → X j = τ j := fun j h1 h2 => by rw [hX, sA_ne _ _ h2]; exact To j h1 h2
    have X1 : X 1 = ua (ua (ua (ua (ua (τ 1) 12 0) 13 0) 14 (-1)) 13 (ctf σ 1 11)) 14 (ctf σ 1 12) := by rw [hX, sA_at, T1, sa.1, e7]
    refine ⟨e1, by omega, ms, X, kw ar n X w0, Ow, e2, ?_⟩
    have keep : ∀ a, a < n → kw ar n X w0 a = w0 a := fun a ha => kw_lo (Or.inl ha)
    refine ci_ct hC0 (by omega) keep (fun a ha => by rw [kw_lo (Or.inr ha)]; exact hfree a (by omega)) (f4 2 (by decide) (by decide) (by decide) (by decide)) (fun i hi => f2 i (by omega) (by omega) (by omega)) (fun j h1 _ h3 => Xo j h3 h1) ?_
    have hR9 := keep_rel hC0 keep
    have rf := rel_ct (t1 := X 1) (t10 := τ 10) hcn (fun i a c d e _ => f2 i c d e) f3 hR9 (by
      unfold rlI
      rw [X1, f2 0 (by decide) (by decide) (by decide), f2 8 (by decide) (by decide) (by decide), f2 9 (by decide) (by decide) (by decide), f2 13 (by decide) (by decide) (by decide), f3, f2 6 (by decide) (by decide) (by decide), f2 7 (by decide) (by decide) (by decide)]
      exact ⟨zi.1, zi.2.1, zi.2.2.1, zi.2.2.2.1, rfl, rfl, rfl, zi.2.2.2.2.2.2.2.1, zi.2.2.2.2.2.2.2.2⟩) (fun k hk => let ⟨p, q1, q2⟩ := hR9.con k hk; ⟨p, q1, rlC_cq hk l8 (f2 _ (by omega) (by omega) (by omega)) (fun i _ => f2 _ (by omega) (by omega) (by omega)) q2⟩)
    unfold Rel9
    rw [Xo 2 (by decide) (by decide), Xo 3 (by decide) (by decide), Xo 4 (by decide) (by decide), Xo 5 (by decide) (by decide), Xo 6 (by decide) (by decide), Xo 7 (by decide) (by decide), Xo 8 (by decide) (by decide), Xo 9 (by decide) (by decide), Xo 10 (by decide) (by decide), Xo 11 (by decide) (by decide), Xo 12 (by decide) (by decide), Xo 13 (by decide) (by decide), Xo 14 (by decide) (by decide)]
    exact rf
  · have fa : ctf σ 1 11 = 0 := by rw [← sa.1]; exact h6
    obtain ⟨e12, dt⟩ := sa.2.2 fa
    have eS : ctS σ ((nv : Nat) : Int) = sA (ctf σ) 1 (ctA (ctf σ 1) (ctf σ 3) nv (ctf σ 0 10)) := ctS_2 (by omega) rfl fa
    obtain ⟨d1, d2, d3, d4, d5⟩ := dt
    rw [if_neg (by omega), eS]
    rw [eS] at ms
    obtain ⟨ls, hls⟩ : ∃ q, q = ctf σ 0 10 := ⟨_, rfl⟩
    rw [← hls] at d1 d2 d3 ms ⊢
    rw [Int.toNat_natCast] at e2
    obtain ⟨X, hX⟩ : ∃ X, X = sA T 10 (ua (T 10) nv ((n : Nat) : Int)) := ⟨_, rfl⟩
    rw [← hX] at e2
    have Xo : ∀ j, j < 44 → j ≠ 1 → j ≠ 10 → X j = τ j := fun j h1 h2 h3 => by rw [hX, sA_ne _ _ h3]; exact To j h1 h2
    have XT : ∀ j, j ≠ 10 → X j = T j := fun j h1 => by rw [hX, sA_ne _ _ h1]
    have X1 : X 1 = ua (ua (ua (τ 1) 12 0) 13 0) 14 (-1) := by rw [XT 1 (by decide)]; exact T1
    have X10 : X 10 = ua (τ 10) nv ((n : Nat) : Int) := by rw [hX, sA_at, To 10 (by decide) (by decide)]
    have eN : ∀ i, i < 320 → ctA (ctf σ 1) (ctf σ 3) nv ls (800 + 320 * nv + i) = ctf σ 3 i := fun i hi => ctA_n _ _ hw ls i hi
    have eO : ∀ i, i ≠ 14 + nv → (i < 800 + 320 * nv ∨ 800 + 320 * nv + 320 ≤ i) → i ≠ 10 → i ≠ 11 → i ≠ 12 → ctA (ctf σ 1) (ctf σ 3) nv ls i = σ 1 i := fun i a c d e f => (ctA_o _ _ hw ls a c).trans (f2 i d e f)
    have eL : ctA (ctf σ 1) (ctf σ 3) nv ls (14 + nv) = ls := ua_at _ _ _
    have a10 : ctA (ctf σ 1) (ctf σ 3) nv ls 10 = 0 := (ctA_o _ _ hw ls (by omega) (by omega)).trans f3
    have a11 : ctA (ctf σ 1) (ctf σ 3) nv ls 11 = 0 := (ctA_o _ _ hw ls (by omega) (by omega)).trans fa
    have a12 : ctA (ctf σ 1) (ctf σ 3) nv ls 12 = -1 := (ctA_o _ _ hw ls (by omega) (by omega)).trans e12
    refine ⟨by rw [e1, d1], by omega, ms, X, kw ar n X w0, Ow, e2, ?_⟩
    have keep : ∀ a, a < n → kw ar n X w0 a = w0 a := fun a ha => kw_lo (Or.inl ha)
    refine ci_ct hC0 (by omega) keep (fun a ha => by rw [kw_lo (Or.inr ha)]; exact hfree a (by omega)) (by rw [sA_ne _ _ (by decide)]; exact f4 2 (by decide) (by decide) (by decide) (by decide)) (fun i hi => by rw [sA_at]; exact eO i (by omega) (by omega) (by omega) (by omega) (by omega)) (fun j h1 h2 h3 => Xo j h3 h1 h2) ?_
    have hR9 := keep_rel hC0 keep
    rw [sA_at]
    have nfn : ∀ q, q < 4 → nf9 b (n + q) := fun q _ => Or.inr (Or.inr (by omega))
    have rC : rlC ar b (kw ar n X w0) (ctA (ctf σ 1) (ctf σ 3) nv ls) nv n := by
      refine ⟨n + 1, n + 2, n + 3, X 101, X 102, X 103, ⟨nfn 0 (by decide), ?_⟩, ⟨nfn 1 (by decide), ?_⟩, ⟨nfn 2 (by decide), ?_⟩, ⟨nfn 3 (by decide), ?_⟩, fun x hx => ?_⟩
      · unfold kw; rw [if_pos rfl, eL, XT 100 (by decide), d1]
      · unfold kw; rw [if_neg (by omega), if_pos rfl]
      · unfold kw; rw [if_neg (by omega), if_neg (by omega), if_pos rfl]
      · unfold kw; rw [if_neg (by omega), if_neg (by omega), if_neg (by omega), if_pos rfl]
      · rw [eL] at hx
        obtain ⟨y1, y2, y3, y4, y5, y6⟩ := d3 x hx
        have x16 : x < 16 := by omega
        have E : ∀ q, q < 20 → ctA (ctf σ 1) (ctf σ 3) nv ls (800 + 320 * nv + 20 * x + q) = ctf σ 3 (20 * x + q) := fun q hq => by
          rw [show 800 + 320 * nv + 20 * x + q = 800 + 320 * nv + (20 * x + q) by omega]; exact eN _ (by omega)
        have E0 := E 0 (by decide)
        rw [Nat.add_zero, Nat.add_zero] at E0
        unfold deed at y1 ⊢
        rw [E 17 (by decide), E 18 (by decide), E0, XT 101 (by decide), XT 102 (by decide), XT 103 (by decide)]
        refine ⟨y1, y2, fun t ht9 => ?_⟩
        have r := y6 t ht9
        have t4 : t < 4 := by omega
        have F : ∀ q, q < 4 → ctA (ctf σ 1) (ctf σ 3) nv ls (800 + 320 * nv + 20 * x + 1 + 4 * t + q) = ctf σ 3 (20 * x + 1 + 4 * t + q) := fun q hq => by
          rw [show 800 + 320 * nv + 20 * x + 1 + 4 * t + q = 800 + 320 * nv + (20 * x + 1 + 4 * t + q) by omega]; exact eN _ (by omega)
        have F0 := F 0 (by decide)
        rw [Nat.add_zero, Nat.add_zero] at F0
        rw [F0, F 1 (by decide), F 2 (by decide), F 3 (by decide)]
        exact ⟨r.1, r.2.1, r.2.2.1, r.2.2.2.1⟩
    have rf := rel_ct (t1 := X 1) (t10 := X 10) (A2 := ctA (ctf σ 1) (ctf σ 3) nv ls) hcn (fun i a c d e f => eO i (by omega) (by omega) c d e) a10 hR9 (by
      unfold rlI
      rw [X1, eO 0 (by omega) (by omega) (by decide) (by decide) (by decide), eO 8 (by omega) (by omega) (by decide) (by decide) (by decide), eO 9 (by omega) (by omega) (by decide) (by decide) (by decide), eO 13 (by omega) (by omega) (by decide) (by decide) (by decide), a10, a11, a12, eO 6 (by omega) (by omega) (by decide) (by decide) (by decide), eO 7 (by omega) (by omega) (by decide) (by decide) (by decide)]
      exact ⟨zi.1, zi.2.1, zi.2.2.1, zi.2.2.2.1, rfl, rfl, rfl, zi.2.2.2.2.2.2.2.1, zi.2.2.2.2.2.2.2.2⟩) (fun k hk => by
        by_cases c : k = nv
        · subst c
          exact ⟨n, by rw [X10, ua_at], rC⟩
        · obtain ⟨p, q1, q2⟩ := hR9.con k hk
          exact ⟨p, by rw [X10, ua_ne _ _ c]; exact q1, rlC_cq hk l8 (eO _ (by omega) (by omega) (by omega) (by omega) (by omega)) (fun i hi => eO _ (by omega) (by omega) (by omega) (by omega) (by omega)) q2⟩)
    unfold Rel9
    rw [Xo 2 (by decide) (by decide) (by decide), Xo 3 (by decide) (by decide) (by decide), Xo 4 (by decide) (by decide) (by decide), Xo 5 (by decide) (by decide) (by decide), Xo 6 (by decide) (by decide) (by decide), Xo 7 (by decide) (by decide) (by decide), Xo 8 (by decide) (by decide) (by decide), Xo 9 (by decide) (by decide) (by decide), Xo 11 (by decide) (by decide) (by decide), Xo 12 (by decide) (by decide) (by decide), Xo 13 (by decide) (by decide) (by decide), Xo 14 (by decide) (by decide) (by decide)]
    exact rf
end CCX
