def fi9 (So Ro : Nat → Int) (k : Nat) (t : Int) : Nat → Bool
  | 0 => true
  | j + 1 => fi9 So Ro k t j && decide (¬ Ro j - t = 0 ∧ ¬ ((Ro j - t = 1 ∨ Ro j - t = -1) ∧ So j = So k))
theorem fi9_f {So Ro : Nat → Int} {k : Nat} {t : Int} {j : Nat} (u : Nat) (e : fi9 So Ro k t j = false) (l : j ≤ u) : fi9 So Ro k t u = false := by
  induction u with
  | zero => have : j = 0 := (by omega); subst this; exact e
  | succ u ih =>
    by_cases q : j = u + 1
    · subst q; exact e
    · rw [fi9, ih (by omega)]; rfl
abbrev gtT : Type := (Nat → Int) × (Nat → Int) × Int
def gtW (body : Nat → gtT → gtT) : Nat → gtT → gtT
  | 0, s => s
  | t + 1, s => body t (gtW body t s)
def gtO (rec : Nat → Int → gtT → gtT) (So Wo : Nat → Int) (k : Nat) (sm : Int) (t : Nat) (s : gtT) : gtT := if fi9 So s.1 k (t : Int) k = true then rec (k + 1) (sm + Wo (6 * k + t)) (ua s.1 k (t : Int), s.2.1, s.2.2) else s
def gtB (So Wo Mo : Nat → Int) : Nat → Nat → Int → gtT → gtT
  | 0, k, sm, s => if sm + Mo k ≤ s.2.2 then s else (s.1, cpy9 s.1 s.2.1 6, sm)
  | f + 1, k, sm, s => if sm + Mo k ≤ s.2.2 then s else gtW (gtO (gtB So Wo Mo f) So Wo k sm) 6 s
def gtR (k : Nat) (s t : gtT) : Prop := (∀ j : Nat, j < k → t.1 j = s.1 j) ∧ (-1 ≤ s.2.2 ∧ s.2.2 ≤ 59994 → -1 ≤ t.2.2 ∧ t.2.2 ≤ 59994)
theorem gtR.refl (k : Nat) (s : gtT) : gtR k s s := ⟨fun _ _ => rfl, fun h => h⟩
theorem gtR.tr {k : Nat} {s t u : gtT} (h : gtR k s t) (g : gtR k t u) : gtR k s u := ⟨fun j q => (g.1 j q).trans (h.1 j q), fun q => g.2 (h.2 q)⟩
theorem gtW_R {k : Nat} {body : Nat → gtT → gtT} (h : ∀ t s, t < 6 → gtR k s (body t s)) : ∀ (n : Nat) (s : gtT), n ≤ 6 → gtR k s (gtW body n s)
  | 0, s, _ => gtR.refl k s
  | n + 1, s, q => (gtW_R h n s (by omega)).tr (h n _ (by omega))
theorem gtO_R {rec : Nat → Int → gtT → gtT} {So Wo : Nat → Int} {k : Nat} {sm : Int} (hk : k < 6) (hs : 0 ≤ sm ∧ sm ≤ 9999 * (k : Int)) (hW : ∀ i, i < 36 → 0 ≤ Wo i ∧ Wo i ≤ 9999) (h : ∀ sm s, 0 ≤ sm → sm ≤ 9999 * ((k + 1 : Nat) : Int) → gtR (k + 1) s (rec (k + 1) sm s)) {t : Nat} (ht : t < 6) (s : gtT) : gtR k s (gtO rec So Wo k sm t s) := by
  unfold gtO
  split
  · have w := hW (6 * k + t) (by omega)
    have a := h (sm + Wo (6 * k + t)) (ua s.1 k (t : Int), s.2.1, s.2.2) (by omega) (by omega)
    refine ⟨fun j q => ?_, a.2⟩
    rw [a.1 j (by omega)]
    exact ua_ne _ _ (by omega)
  · exact gtR.refl k s
theorem gtB_R (So Wo Mo : Nat → Int) (hW : ∀ i, i < 36 → 0 ≤ Wo i ∧ Wo i ≤ 9999) : ∀ (f k : Nat) (sm : Int) (s : gtT), k + f ≤ 6 → 0 ≤ sm → sm ≤ 9999 * (k : Int) → gtR k s (gtB So Wo Mo f k sm s)
  | 0, k, sm, s, h1, h2, h3 => by
    unfold gtB
    split
    · exact gtR.refl k s
    · exact ⟨fun _ _ => rfl, fun _ => by show -1 ≤ sm ∧ sm ≤ 59994; omega⟩
  | f + 1, k, sm, s, h1, h2, h3 => by
    unfold gtB
    split
    · exact gtR.refl k s
    · exact gtW_R (fun t s ht => gtO_R (by omega) ⟨h2, h3⟩ hW (fun sm s a1 a2 => gtB_R So Wo Mo hW f (k + 1) sm s (by omega) a1 a2) ht s) 6 s (Nat.le_refl _)
def gtI (So Wo Mo Ro : Nat → Int) (f k : Nat) (sm bt : Int) : Prop := (k + f ≤ 6 ∧ (0 ≤ sm ∧ sm ≤ 9999 * (k : Int)) ∧ (-1 ≤ bt ∧ bt ≤ 59994)) ∧ (∀ i, i < 6 → inI (So i)) ∧ (∀ i, i < 36 → 0 ≤ Wo i ∧ Wo i ≤ 9999) ∧ (∀ i, i ≤ k + f → 0 ≤ Mo i ∧ Mo i ≤ 59994) ∧ (∀ j, j < k → 0 ≤ Ro j ∧ Ro j ≤ 5)
theorem gtI_R {So Wo Mo Ro : Nat → Int} {f k : Nat} {sm bt : Int} {Br : Nat → Int} (h : gtI So Wo Mo Ro f k sm bt) {t : gtT} (r : gtR k (Ro, Br, bt) t) : gtI So Wo Mo t.1 f k sm t.2.2 :=
  ⟨⟨h.1.1, h.1.2.1, r.2 h.1.2.2⟩, h.2.1, h.2.2.1, h.2.2.2.1, fun j q => by rw [r.1 j q]; exact h.2.2.2.2 j q⟩
theorem gtI_s {So Wo Mo Ro : Nat → Int} {f k t : Nat} {sm bt : Int} (h : gtI So Wo Mo Ro (f + 1) k sm bt) (ht : t < 6) : gtI So Wo Mo (ua Ro k (t : Int)) f (k + 1) (sm + Wo (6 * k + t)) bt := by
  obtain ⟨⟨a1, a2, a3⟩, a4, a5, a6, a7⟩ := h
  have w := a5 (6 * k + t) (by omega)
  refine ⟨⟨by omega, by omega, a3⟩, a4, a5, fun i q => a6 i (by omega), fun j q => ?_⟩
  unfold ua
  split
  · omega
  · exact a7 j (by omega)
def dx9 (Wo : Nat → Int) (p : Nat) : Nat → Int
  | 0 => 0
  | t + 1 => zmx (dx9 Wo p t) (Wo (6 * p + t))
def mo9 (Wo M0 : Nat → Int) (np : Nat) : Nat → (Nat → Int)
  | 0 => ua M0 np 0
  | c + 1 => ua (mo9 Wo M0 np c) (np - 1 - c) (mo9 Wo M0 np c (np - 1 - c + 1) + dx9 Wo (np - 1 - c) 6)
/-- the contract of 'giveTurns' with f pieces left -/
def gtK (l : Launch) (D : va_G) (ar : Nat → ClassId) (B : Nat → Prop) (b : Nat) (w0 : zcW) (n : Nat) (np : Nat) (f : Nat) : Prop := ∀ (τ : Nat → Nat → Int) (k : Nat) (sm : Int), τ 12 0 = (np : Int) → k + f = np → gtI (τ 13) (τ 14) (τ 17) (τ 16) f k sm (τ 12 3) → zt_M l D ar B b w0 n yX2_giveTurns cX2_giveTurns 4 none (f + 3) (60 * f + 60) [.ref (b + 12), .int (iz ((k : Nat) : Int)), .int (iz sm)] τ none (sA (sA (sA τ 12 (ua (τ 12) 3 (gtB (τ 13) (τ 14) (τ 17) f k sm (τ 16, τ 15, τ 12 3)).2.2)) 15 (gtB (τ 13) (τ 14) (τ 17) f k sm (τ 16, τ 15, τ 12 3)).2.1) 16 (gtB (τ 13) (τ 14) (τ 17) f k sm (τ 16, τ 15, τ 12 3)).1)
theorem ua_idq (f : Nat → Int) (i : Nat) : f = ua f i (f i) := by
  funext q; unfold ua; split
  · next h => rw [h]
  · rfl
theorem gtE (τ : Nat → Nat → Int) : τ = sA (sA (sA τ 12 (ua (τ 12) 3 (τ 12 3))) 15 (τ 15)) 16 (τ 16) := by
  funext j9
  by_cases h : j9 = 12
  · subst h
    show τ 12 = ua (τ 12) 3 (τ 12 3)
    funext i9
    unfold ua
    split
    · next e => rw [e]
    · rfl
  · by_cases g : j9 = 15
    · subst g; rfl
    · by_cases g2 : j9 = 16
      · subst g2; rfl
      · simp only [sA, if_neg h, if_neg g, if_neg g2]
theorem mo9_r {Wo M0 : Nat → Int} {np : Nat} (hW : ∀ i, i < 36 → 0 ≤ Wo i ∧ Wo i ≤ 9999) (hn : np ≤ 6) : ∀ c : Nat, c ≤ np → ∀ i, np - c ≤ i → i ≤ np → 0 ≤ mo9 Wo M0 np c i ∧ mo9 Wo M0 np c i ≤ 9999 * ((np - i : Nat) : Int)
  | 0, _, i, h1, h2 => by
    rw [show i = np by omega]
    show 0 ≤ ua M0 np 0 np ∧ ua M0 np 0 np ≤ _
    rw [ua_at]; omega
  | c + 1, hc, i, h1, h2 => by
    have d : ∀ t, t ≤ 6 → 0 ≤ dx9 Wo (np - 1 - c) t ∧ dx9 Wo (np - 1 - c) t ≤ 9999 := by
      intro t
      induction t with
      | zero => intro _; show 0 ≤ (0 : Int) ∧ (0 : Int) ≤ 9999; omega
      | succ t ih =>
        intro q
        have a := ih (by omega)
        have w := hW (6 * (np - 1 - c) + t) (by omega)
        show 0 ≤ zmx _ _ ∧ zmx _ _ ≤ 9999
        unfold zmx
        split <;> omega
    have d6 := d 6 (by omega)
    show 0 ≤ ua _ _ _ i ∧ ua _ _ _ i ≤ _
    unfold ua
    split
    · next e =>
      have a := mo9_r (M0 := M0) hW hn c (by omega) (np - 1 - c + 1) (by omega) (by omega)
      omega
    · exact mo9_r hW hn c (by omega) i (by omega) h2
theorem gtI_0 {So Wo M0 Ro : Nat → Int} {np : Nat} (hn : np ≤ 6) (hW : ∀ i, i < 36 → 0 ≤ Wo i ∧ Wo i ≤ 9999) (hS : ∀ i, i < 6 → inI (So i)) : gtI So Wo (mo9 Wo M0 np np) Ro np 0 0 (-1) :=
  ⟨⟨by omega, by omega, by omega⟩, hS, hW, fun i q => by have z := mo9_r (M0 := M0) hW hn np (Nat.le_refl _) i (by omega) (by omega); exact ⟨z.1, by omega⟩, fun j q => absurd q (Nat.not_lt_zero _)⟩

theorem dX2_fits_0 : decode cX2_fits 0 = .ok (.iconst 0, 1) := by decide +kernel
theorem dX2_fits_1 : decode cX2_fits 1 = .ok (.istore_n 3, 1) := by decide +kernel
theorem dX2_fits_2 : decode cX2_fits 2 = .ok (.iload_n 3, 1) := by decide +kernel
theorem dX2_fits_3 : decode cX2_fits 3 = .ok (.iload_n 1, 1) := by decide +kernel
theorem dX2_fits_4 : decode cX2_fits 4 = .ok (.if_icmp .ge 50, 3) := by decide +kernel
theorem dX2_fits_7 : decode cX2_fits 7 = .ok (.aload_n 0, 1) := by decide +kernel
theorem dX2_fits_8 : decode cX2_fits 8 = .ok (.getfield 21, 3) := by decide +kernel
theorem dX2_fits_11 : decode cX2_fits 11 = .ok (.iload_n 3, 1) := by decide +kernel
theorem dX2_fits_12 : decode cX2_fits 12 = .ok (.iaload, 1) := by decide +kernel
theorem dX2_fits_13 : decode cX2_fits 13 = .ok (.iload_n 2, 1) := by decide +kernel
theorem dX2_fits_14 : decode cX2_fits 14 = .ok (.isub, 1) := by decide +kernel
theorem dX2_fits_15 : decode cX2_fits 15 = .ok (.invokestatic 54, 3) := by decide +kernel
theorem dX2_fits_18 : decode cX2_fits 18 = .ok (.istore 4, 2) := by decide +kernel
theorem dX2_fits_20 : decode cX2_fits 20 = .ok (.iload 4, 2) := by decide +kernel
theorem dX2_fits_22 : decode cX2_fits 22 = .ok (.ifCond .eq 24, 3) := by decide +kernel
theorem dX2_fits_25 : decode cX2_fits 25 = .ok (.iload 4, 2) := by decide +kernel
theorem dX2_fits_27 : decode cX2_fits 27 = .ok (.iconst 1, 1) := by decide +kernel
theorem dX2_fits_28 : decode cX2_fits 28 = .ok (.if_icmp .ne 20, 3) := by decide +kernel
theorem dX2_fits_31 : decode cX2_fits 31 = .ok (.aload_n 0, 1) := by decide +kernel
theorem dX2_fits_32 : decode cX2_fits 32 = .ok (.getfield 9, 3) := by decide +kernel
theorem dX2_fits_35 : decode cX2_fits 35 = .ok (.iload_n 3, 1) := by decide +kernel
theorem dX2_fits_36 : decode cX2_fits 36 = .ok (.iaload, 1) := by decide +kernel
theorem dX2_fits_37 : decode cX2_fits 37 = .ok (.aload_n 0, 1) := by decide +kernel
theorem dX2_fits_38 : decode cX2_fits 38 = .ok (.getfield 9, 3) := by decide +kernel
theorem dX2_fits_41 : decode cX2_fits 41 = .ok (.iload_n 1, 1) := by decide +kernel
theorem dX2_fits_42 : decode cX2_fits 42 = .ok (.iaload, 1) := by decide +kernel
theorem dX2_fits_43 : decode cX2_fits 43 = .ok (.if_icmp .ne 5, 3) := by decide +kernel
theorem dX2_fits_46 : decode cX2_fits 46 = .ok (.iconst 0, 1) := by decide +kernel
theorem dX2_fits_47 : decode cX2_fits 47 = .ok (.ireturn, 1) := by decide +kernel
theorem dX2_fits_48 : decode cX2_fits 48 = .ok (.iinc 3 1, 3) := by decide +kernel
theorem dX2_fits_51 : decode cX2_fits 51 = .ok (.goto (-49), 3) := by decide +kernel
theorem dX2_fits_54 : decode cX2_fits 54 = .ok (.iconst 1, 1) := by decide +kernel
theorem dX2_fits_55 : decode cX2_fits 55 = .ok (.ireturn, 1) := by decide +kernel
theorem fl_X2_21 : Cond.fieldLink RX2 21 "HookUps$Evening" (TX2 5).2.1 (TX2 5).2.2.1 ∈ hk_tb := hk_tq1 84 (by decide +kernel) (by decide +kernel)
theorem ck_X2_54 : zcS RX2 yJ9_abs_0f7a4 cJ9_abs_0f7a4 1 (some .int) 54 1 := ⟨hk_tq5 85 (by decide +kernel) (by decide +kernel), hk_tq5 83 (by decide +kernel) (by decide +kernel), hk_tq1 14 (by decide +kernel) (by decide +kernel), ⟨by decide, by decide, by decide +kernel⟩, hk_tq5 84 (by decide +kernel) (by decide +kernel)⟩
set_option maxRecDepth 100000 in
set_option maxHeartbeats 4000000 in
theorem k_X2_fits (l : Launch) {D : va_G} {ar : Nat → ClassId} {B : Nat → Prop} {b n : Nat} {w0 : zcW}  (τ : Nat → Nat → Int) (k : Nat) (t : Int) (hk6 : k < 6) (ht : 0 ≤ t ∧ t ≤ 5) (hRo : ∀ j, j < k → 0 ≤ τ 16 j ∧ τ 16 j ≤ 5) (hSo : ∀ j, j < 6 → inI (τ 13 j)) : zt_M l D ar B b w0 n yX2_fits cX2_fits 5 (some .boolean) 1 20 [.ref (b + 12), .int (iz ((k : Nat) : Int)), .int (iz t)] τ (some (.int (iz (xb (fi9 (τ 13) (τ 16) k t k))))) (τ) := by
  refine zc_start (own := RX2) (by decide +kernel) rfl (Nat.le_of_ble_eq_true rfl) ?_
  intro p e s m args below meth c C K hr hlk hnam
  refine hv_iconst C dX2_fits_0 ?_
  refine hv_istore_n C 3 [(3, .int (iz 0)), (0, .ref (b + 12)), (1, .int (iz ((k : Nat) : Int))), (2, .int (iz t))] dX2_fits_1 rfl (by decide) rfl ?_
  have L2 : ∀ (f : Nat) (j : Nat), k - j < f → (j ≤ k) → (fi9 (τ 13) (τ 16) k t j = true) → hvV p l e { frames := 1, cells := 0, slots := 0, locals := 20 } s m args below meth c 5 B 0 0 (MQ below (zc_Q D B (fun r' w' n' => r' = (some (.int (iz (xb (fi9 (τ 13) (τ 16) k t k))))) ∧ w' = cw ar b (τ) w0 ∧ n' = n)) args s 0 0 B) (zc_I D B (cw ar b τ w0) n s.heap) 2 [(0, .ref (b + 12)), (1, .int (iz ((k : Nat) : Int))), (2, .int (iz t)), (3, .int (iz ((j : Nat) : Int)))] [] := by
    intro f
    induction f with
    | zero => intro _ hm; exact absurd hm (Nat.not_lt_zero _)
    | succ f ih2 =>
      intro j hm2 hjk hj
      refine hv_iload_n C 3 3 dX2_fits_2 rfl rfl ?_
      refine hv_iload_n C 1 1 dX2_fits_3 rfl rfl ?_
      refine hv_icmp_ge C 54 dX2_fits_4 (by decide) (by omega) (by omega) (fun h4 => ?_) (fun h4 => ?_)
      · skip
        refine hv_iconst C dX2_fits_54 ?_
        exact zt_zret C hr hlk ((xb_t (by first | exact zf | (have zjk : j = k := (by omega); rw [zjk] at hj; exact hj))).symm) rfl dX2_fits_55
      · skip
        have zr := hRo j (by omega)
        refine hv_aload_n C 0 0 dX2_fits_7 rfl rfl ?_
        refine zc_get C K (v := .ref (b + 16)) 5 rfl hu_3 (by decide) (cw_at 12 rfl) rfl fl_X2_21 rfl dX2_fits_8 ?_
        refine hv_iload_n C 3 3 dX2_fits_11 rfl rfl ?_
        refine zc_iald C K (f := (τ 16)) j (cw_at 16 rfl) (by omega) (by omega) (by decide) dX2_fits_12 ?_
        refine hv_as (τ 16 j) rfl ?_
        refine hv_iload_n C 2 2 dX2_fits_13 rfl rfl ?_
        refine hv_isub C dX2_fits_14 ?_
        refine zt_callS [.int (iz ((τ 16 j) - t))] [] C K (k_J9_abs_0f7a4 l  τ ((τ 16 j) - t) (by omega)) ck_X2_54 (by decide) ⟨Nat.zero_le _, Nat.zero_le _⟩ rfl (Nat.le_of_ble_eq_true rfl) dX2_fits_15 ?_
        refine hv_as ((if ((τ 16 j) - t) < 0 then -((τ 16 j) - t) else ((τ 16 j) - t))) rfl ?_
        refine hv_nm (fun y ey => ?_)
        have zy : (y = τ 16 j - t ∨ y = t - τ 16 j) ∧ 0 ≤ y := by rw [ey]; split <;> omega
        refine hv_istore C 4 [(4, .int (iz y)), (0, .ref (b + 12)), (1, .int (iz ((k : Nat) : Int))), (2, .int (iz t)), (3, .int (iz ((j : Nat) : Int)))] dX2_fits_18 (by decide) rfl ?_
        refine hv_iload C 4 0 dX2_fits_20 rfl ?_
        refine hv_if_eq C 46 dX2_fits_22 (by decide) (by omega) (fun h22 => ?_) (fun h22 => ?_)
        · skip
          have zf : fi9 (τ 13) (τ 16) k t k = false := fi9_f (j := j + 1) k (by rw [fi9, hj, decide_eq_false (by omega)]; rfl) (by omega)
          refine hv_iconst C dX2_fits_46 ?_
          exact zt_zret C hr hlk ((xb_f (by first | exact zf | (have zjk : j = k := (by omega); rw [zjk] at hj; exact hj))).symm) rfl dX2_fits_47
        · skip
          refine hv_iload C 4 0 dX2_fits_25 rfl ?_
          refine hv_iconst C dX2_fits_27 ?_
          refine hv_icmp_ne C 48 dX2_fits_28 (by decide) (by omega) (by omega) (fun h28 => ?_) (fun h28 => ?_)
          · skip
            refine hv_iinc C 3 4 [(3, .int (iz (((j : Nat) : Int) + 1))), (4, .int (iz y)), (0, .ref (b + 12)), (1, .int (iz ((k : Nat) : Int))), (2, .int (iz t))] dX2_fits_48 rfl (by decide) rfl ?_
            refine hv_goto C 2 dX2_fits_51 (by decide) ?_
            refine hv_loc [2, 3, 4, 0] [(0, .ref (b + 12)), (1, .int (iz ((k : Nat) : Int))), (2, .int (iz t)), (3, .int (iz (((j : Nat) : Int) + 1)))] rfl ?_
            exact ih2 (j + 1) (by omega) (by omega) (by rw [fi9, hj, decide_eq_true (by omega)]; rfl)
          · skip
            refine hv_aload_n C 0 1 dX2_fits_31 rfl rfl ?_
            refine zc_get C K (v := .ref (b + 13)) 1 rfl hu_3 (by decide) (cw_at 12 rfl) rfl fl_X2_9 rfl dX2_fits_32 ?_
            refine hv_iload_n C 3 4 dX2_fits_35 rfl rfl ?_
            refine zc_iald C K (f := (τ 13)) j (cw_at 13 rfl) (by omega) (by omega) (by decide) dX2_fits_36 ?_
            refine hv_as (τ 13 j) rfl ?_
            refine hv_nm (fun x1 ex1 => ?_)
            have rx1 : inI x1 := by rw [ex1]; exact hSo j (by omega)
            refine hv_aload_n C 0 1 dX2_fits_37 rfl rfl ?_
            refine zc_get C K (v := .ref (b + 13)) 1 rfl hu_3 (by decide) (cw_at 12 rfl) rfl fl_X2_9 rfl dX2_fits_38 ?_
            refine hv_iload_n C 1 2 dX2_fits_41 rfl rfl ?_
            refine zc_iald C K (f := (τ 13)) k (cw_at 13 rfl) (by omega) (by omega) (by decide) dX2_fits_42 ?_
            refine hv_as (τ 13 k) rfl ?_
            refine hv_nm (fun x2 ex2 => ?_)
            have rx2 : inI x2 := by rw [ex2]; exact hSo k (by omega)
            refine hv_icmp_ne C 48 dX2_fits_43 (by decide) (by omega) (by omega) (fun h43 => ?_) (fun h43 => ?_)
            · skip
              refine hv_iinc C 3 4 [(3, .int (iz (((j : Nat) : Int) + 1))), (4, .int (iz y)), (0, .ref (b + 12)), (1, .int (iz ((k : Nat) : Int))), (2, .int (iz t))] dX2_fits_48 rfl (by decide) rfl ?_
              refine hv_goto C 2 dX2_fits_51 (by decide) ?_
              refine hv_loc [2, 3, 4, 0] [(0, .ref (b + 12)), (1, .int (iz ((k : Nat) : Int))), (2, .int (iz t)), (3, .int (iz (((j : Nat) : Int) + 1)))] rfl ?_
              exact ih2 (j + 1) (by omega) (by omega) (by rw [fi9, hj, decide_eq_true (by omega)]; rfl)
            · skip
              have zf : fi9 (τ 13) (τ 16) k t k = false := fi9_f (j := j + 1) k (by rw [fi9, hj, decide_eq_false (by omega)]; rfl) (by omega)
              refine hv_iconst C dX2_fits_46 ?_
              exact zt_zret C hr hlk ((xb_f (by first | exact zf | (have zjk : j = k := (by omega); rw [zjk] at hj; exact hj))).symm) rfl dX2_fits_47
  refine hv_loc [1, 2, 3, 0] [(0, .ref (b + 12)), (1, .int (iz ((k : Nat) : Int))), (2, .int (iz t)), (3, .int (iz 0))] rfl ?_
  exact L2 _ 0 (Nat.lt_succ_self _) (by omega) rfl
theorem dX2_giveTurns_0 : decode cX2_giveTurns 0 = .ok (.iload_n 2, 1) := by decide +kernel
theorem dX2_giveTurns_1 : decode cX2_giveTurns 1 = .ok (.aload_n 0, 1) := by decide +kernel
theorem dX2_giveTurns_2 : decode cX2_giveTurns 2 = .ok (.getfield 24, 3) := by decide +kernel
theorem dX2_giveTurns_5 : decode cX2_giveTurns 5 = .ok (.iload_n 1, 1) := by decide +kernel
theorem dX2_giveTurns_6 : decode cX2_giveTurns 6 = .ok (.iaload, 1) := by decide +kernel
theorem dX2_giveTurns_7 : decode cX2_giveTurns 7 = .ok (.iadd, 1) := by decide +kernel
theorem dX2_giveTurns_8 : decode cX2_giveTurns 8 = .ok (.aload_n 0, 1) := by decide +kernel
theorem dX2_giveTurns_9 : decode cX2_giveTurns 9 = .ok (.getfield 43, 3) := by decide +kernel
theorem dX2_giveTurns_12 : decode cX2_giveTurns 12 = .ok (.if_icmp .gt 4, 3) := by decide +kernel
theorem dX2_giveTurns_15 : decode cX2_giveTurns 15 = .ok (.return_, 1) := by decide +kernel
theorem dX2_giveTurns_16 : decode cX2_giveTurns 16 = .ok (.iload_n 1, 1) := by decide +kernel
theorem dX2_giveTurns_17 : decode cX2_giveTurns 17 = .ok (.aload_n 0, 1) := by decide +kernel
theorem dX2_giveTurns_18 : decode cX2_giveTurns 18 = .ok (.getfield 27, 3) := by decide +kernel
theorem dX2_giveTurns_21 : decode cX2_giveTurns 21 = .ok (.if_icmp .lt 24, 3) := by decide +kernel
theorem dX2_giveTurns_24 : decode cX2_giveTurns 24 = .ok (.aload_n 0, 1) := by decide +kernel
theorem dX2_giveTurns_25 : decode cX2_giveTurns 25 = .ok (.iload_n 2, 1) := by decide +kernel
theorem dX2_giveTurns_26 : decode cX2_giveTurns 26 = .ok (.putfield 43, 3) := by decide +kernel
theorem dX2_giveTurns_29 : decode cX2_giveTurns 29 = .ok (.aload_n 0, 1) := by decide +kernel
theorem dX2_giveTurns_30 : decode cX2_giveTurns 30 = .ok (.getfield 21, 3) := by decide +kernel
theorem dX2_giveTurns_33 : decode cX2_giveTurns 33 = .ok (.iconst 0, 1) := by decide +kernel
theorem dX2_giveTurns_34 : decode cX2_giveTurns 34 = .ok (.aload_n 0, 1) := by decide +kernel
theorem dX2_giveTurns_35 : decode cX2_giveTurns 35 = .ok (.getfield 18, 3) := by decide +kernel
theorem dX2_giveTurns_38 : decode cX2_giveTurns 38 = .ok (.iconst 0, 1) := by decide +kernel
theorem dX2_giveTurns_39 : decode cX2_giveTurns 39 = .ok (.bipush 6, 2) := by decide +kernel
theorem dX2_giveTurns_41 : decode cX2_giveTurns 41 = .ok (.invokestatic 31, 3) := by decide +kernel
theorem dX2_giveTurns_44 : decode cX2_giveTurns 44 = .ok (.return_, 1) := by decide +kernel
theorem dX2_giveTurns_45 : decode cX2_giveTurns 45 = .ok (.iconst 0, 1) := by decide +kernel
theorem dX2_giveTurns_46 : decode cX2_giveTurns 46 = .ok (.istore_n 3, 1) := by decide +kernel
theorem dX2_giveTurns_47 : decode cX2_giveTurns 47 = .ok (.iload_n 3, 1) := by decide +kernel
theorem dX2_giveTurns_48 : decode cX2_giveTurns 48 = .ok (.bipush 6, 2) := by decide +kernel
theorem dX2_giveTurns_50 : decode cX2_giveTurns 50 = .ok (.if_icmp .ge 45, 3) := by decide +kernel
theorem dX2_giveTurns_53 : decode cX2_giveTurns 53 = .ok (.aload_n 0, 1) := by decide +kernel
theorem dX2_giveTurns_54 : decode cX2_giveTurns 54 = .ok (.iload_n 1, 1) := by decide +kernel
theorem dX2_giveTurns_55 : decode cX2_giveTurns 55 = .ok (.iload_n 3, 1) := by decide +kernel
theorem dX2_giveTurns_56 : decode cX2_giveTurns 56 = .ok (.invokevirtual 50, 3) := by decide +kernel
theorem dX2_giveTurns_59 : decode cX2_giveTurns 59 = .ok (.ifCond .eq 30, 3) := by decide +kernel
theorem dX2_giveTurns_62 : decode cX2_giveTurns 62 = .ok (.aload_n 0, 1) := by decide +kernel
theorem dX2_giveTurns_63 : decode cX2_giveTurns 63 = .ok (.getfield 21, 3) := by decide +kernel
theorem dX2_giveTurns_66 : decode cX2_giveTurns 66 = .ok (.iload_n 1, 1) := by decide +kernel
theorem dX2_giveTurns_67 : decode cX2_giveTurns 67 = .ok (.iload_n 3, 1) := by decide +kernel
theorem dX2_giveTurns_68 : decode cX2_giveTurns 68 = .ok (.iastore, 1) := by decide +kernel
theorem dX2_giveTurns_69 : decode cX2_giveTurns 69 = .ok (.aload_n 0, 1) := by decide +kernel
theorem dX2_giveTurns_70 : decode cX2_giveTurns 70 = .ok (.iload_n 1, 1) := by decide +kernel
theorem dX2_giveTurns_71 : decode cX2_giveTurns 71 = .ok (.iconst 1, 1) := by decide +kernel
theorem dX2_giveTurns_72 : decode cX2_giveTurns 72 = .ok (.iadd, 1) := by decide +kernel
theorem dX2_giveTurns_73 : decode cX2_giveTurns 73 = .ok (.iload_n 2, 1) := by decide +kernel
theorem dX2_giveTurns_74 : decode cX2_giveTurns 74 = .ok (.aload_n 0, 1) := by decide +kernel
theorem dX2_giveTurns_75 : decode cX2_giveTurns 75 = .ok (.getfield 15, 3) := by decide +kernel
theorem dX2_giveTurns_78 : decode cX2_giveTurns 78 = .ok (.bipush 6, 2) := by decide +kernel
theorem dX2_giveTurns_80 : decode cX2_giveTurns 80 = .ok (.iload_n 1, 1) := by decide +kernel
theorem dX2_giveTurns_81 : decode cX2_giveTurns 81 = .ok (.imul, 1) := by decide +kernel
theorem dX2_giveTurns_82 : decode cX2_giveTurns 82 = .ok (.iload_n 3, 1) := by decide +kernel
theorem dX2_giveTurns_83 : decode cX2_giveTurns 83 = .ok (.iadd, 1) := by decide +kernel
theorem dX2_giveTurns_84 : decode cX2_giveTurns 84 = .ok (.iaload, 1) := by decide +kernel
theorem dX2_giveTurns_85 : decode cX2_giveTurns 85 = .ok (.iadd, 1) := by decide +kernel
theorem dX2_giveTurns_86 : decode cX2_giveTurns 86 = .ok (.invokevirtual 46, 3) := by decide +kernel
theorem dX2_giveTurns_89 : decode cX2_giveTurns 89 = .ok (.iinc 3 1, 3) := by decide +kernel
theorem dX2_giveTurns_92 : decode cX2_giveTurns 92 = .ok (.goto (-45), 3) := by decide +kernel
theorem dX2_giveTurns_95 : decode cX2_giveTurns 95 = .ok (.return_, 1) := by decide +kernel
theorem fl_X2_24 : Cond.fieldLink RX2 24 "HookUps$Evening" (TX2 6).2.1 (TX2 6).2.2.1 ∈ hk_tb := hk_tq1 85 (by decide +kernel) (by decide +kernel)
theorem fl_X2_43 : Cond.fieldLink RX2 43 "HookUps$Evening" (TX2 3).2.1 (TX2 3).2.2.1 ∈ hk_tb := hk_tq1 80 (by decide +kernel) (by decide +kernel)
theorem ck_X2_50 : zcV RX2 RX2 yX2_fits cX2_fits 5 (some .boolean) 50 2 := ⟨hk_tq5 82 (by decide +kernel) (by decide +kernel), hk_tq5 79 (by decide +kernel) (by decide +kernel), hk_tq1 6 (by decide +kernel) (by decide +kernel), ⟨by decide, by decide, by decide +kernel⟩, hk_tq5 81 (by decide +kernel) (by decide +kernel), hk_s 32 (by decide +kernel) (by decide +kernel)⟩
theorem fl_X2_15 : Cond.fieldLink RX2 15 "HookUps$Evening" (TX2 2).2.1 (TX2 2).2.2.1 ∈ hk_tb := hk_tq1 78 (by decide +kernel) (by decide +kernel)
theorem ck_X2_46 : zcV RX2 RX2 yX2_giveTurns cX2_giveTurns 4 none 46 2 := ⟨hk_tq5 77 (by decide +kernel) (by decide +kernel), hk_tq5 74 (by decide +kernel) (by decide +kernel), hk_tq1 6 (by decide +kernel) (by decide +kernel), ⟨by decide, by decide, by decide +kernel⟩, hk_tq5 76 (by decide +kernel) (by decide +kernel), hk_s 31 (by decide +kernel) (by decide +kernel)⟩
set_option maxRecDepth 100000 in
set_option maxHeartbeats 4000000 in
theorem k_gt_S (l : Launch) {D : va_G} {ar : Nat → ClassId} {B : Nat → Prop} {b n : Nat} {w0 : zcW} (np fl : Nat) (τ : Nat → Nat → Int) (k : Nat) (sm : Int) (hnp : τ 12 0 = (np : Int)) (hkf : k + (fl + 1) = np) (hI : gtI (τ 13) (τ 14) (τ 17) (τ 16) (fl + 1) k sm (τ 12 3)) (hG : gtK l D ar B b w0 n np fl) : zt_M l D ar B b w0 n yX2_giveTurns cX2_giveTurns 4 none (fl + 1 + 3) (60 * (fl + 1) + 60) [.ref (b + 12), .int (iz ((k : Nat) : Int)), .int (iz sm)] τ none (sA (sA (sA τ 12 (ua (τ 12) 3 (gtB (τ 13) (τ 14) (τ 17) (fl + 1) k sm (τ 16, τ 15, τ 12 3)).2.2)) 15 (gtB (τ 13) (τ 14) (τ 17) (fl + 1) k sm (τ 16, τ 15, τ 12 3)).2.1) 16 (gtB (τ 13) (τ 14) (τ 17) (fl + 1) k sm (τ 16, τ 15, τ 12 3)).1) := by
  refine zc_start (own := RX2) (by decide +kernel) rfl (Nat.le_of_ble_eq_true rfl) ?_
  intro p e s m args below meth c C K hr hlk hnam
  obtain ⟨⟨a1, a2, a3⟩, a4, a5, a6, a7⟩ := id hI
  have zmo := a6 k (by omega)
  refine hv_iload_n C 2 2 dX2_giveTurns_0 rfl rfl ?_
  refine hv_aload_n C 0 0 dX2_giveTurns_1 rfl rfl ?_
  refine zc_get C K (v := .ref (b + 17)) 6 rfl hu_3 (by decide) (cw_at 12 rfl) rfl fl_X2_24 rfl dX2_giveTurns_2 ?_
  refine hv_iload_n C 1 1 dX2_giveTurns_5 rfl rfl ?_
  refine zc_iald C K (f := (τ 17)) k (cw_at 17 rfl) (by omega) (by omega) (by decide) dX2_giveTurns_6 ?_
  refine hv_as (τ 17 k) rfl ?_
  refine hv_iadd C dX2_giveTurns_7 ?_
  refine hv_aload_n C 0 0 dX2_giveTurns_8 rfl rfl ?_
  refine zc_get C K (v := .int (iz (τ 12 3))) 3 rfl hu_3 (by decide) (cw_at 12 rfl) rfl fl_X2_43 rfl dX2_giveTurns_9 ?_
  refine hv_icmp_gt C 16 dX2_giveTurns_12 (by decide) (by omega) (by omega) (fun h12 => ?_) (fun h12 => ?_)
  · skip
    refine hv_iload_n C 1 1 dX2_giveTurns_16 rfl rfl ?_
    refine hv_aload_n C 0 0 dX2_giveTurns_17 rfl rfl ?_
    refine zc_get C K (v := .int (iz (τ 12 0))) 0 rfl hu_3 (by decide) (cw_at 12 rfl) rfl fl_X2_27 rfl dX2_giveTurns_18 ?_
    refine hv_icmp_lt C 45 dX2_giveTurns_21 (by decide) (by omega) (by omega) (fun h21 => ?_) (fun h21 => ?_)
    · skip
      have zZ0 : (gtB (τ 13) (τ 14) (τ 17) (fl + 1) k sm (τ 16, τ 15, τ 12 3)) = gtW (gtO (gtB (τ 13) (τ 14) (τ 17) fl) (τ 13) (τ 14) k sm) 6 (τ 16, τ 15, τ 12 3) := if_neg (by show ¬ sm + τ 17 k ≤ τ 12 3; omega)
      have zR := fun (u : Nat) (hu : u < 6) (s : gtT) => gtO_R (So := τ 13) (t := u) (by omega) a2 a5 (fun sm s b1 b2 => gtB_R (τ 13) (τ 14) (τ 17) a5 fl (k + 1) sm s (by omega) b1 b2) hu s
      refine hv_iconst C dX2_giveTurns_45 ?_
      refine hv_istore_n C 3 [(3, .int (iz 0)), (0, .ref (b + 12)), (1, .int (iz ((k : Nat) : Int))), (2, .int (iz sm))] dX2_giveTurns_46 rfl (by decide) rfl ?_
      have L47 : ∀ (f : Nat) (t : Nat) (bt : Int) (Br : Nat → Int) (Ro : Nat → Int), 6 - t < f → (t ≤ 6) → (gtW (gtO (gtB (τ 13) (τ 14) (τ 17) fl) (τ 13) (τ 14) k sm) t (τ 16, τ 15, τ 12 3) = (Ro, Br, bt)) → (gtI (τ 13) (τ 14) (τ 17) Ro (fl + 1) k sm bt) → hvV p l e { frames := (fl + 1 + 3), cells := 0, slots := 0, locals := (60 * (fl + 1) + 60) } s m args below meth c 4 B 0 0 (MQ below (zc_Q D B (fun r' w' n' => r' = none ∧ w' = cw ar b (sA (sA (sA τ 12 (ua (τ 12) 3 (gtB (τ 13) (τ 14) (τ 17) (fl + 1) k sm (τ 16, τ 15, τ 12 3)).2.2)) 15 (gtB (τ 13) (τ 14) (τ 17) (fl + 1) k sm (τ 16, τ 15, τ 12 3)).2.1) 16 (gtB (τ 13) (τ 14) (τ 17) (fl + 1) k sm (τ 16, τ 15, τ 12 3)).1) w0 ∧ n' = n)) args s 0 0 B) (zc_I D B (cw ar b (sA (sA (sA τ 12 (ua (τ 12) 3 bt)) 15 Br) 16 Ro) w0) n s.heap) 47 [(0, .ref (b + 12)), (1, .int (iz ((k : Nat) : Int))), (2, .int (iz sm)), (3, .int (iz ((t : Nat) : Int)))] [] := by
        intro f
        induction f with
        | zero => intro _ _ _ _ hm; exact absurd hm (Nat.not_lt_zero _)
        | succ f ih47 =>
          intro t bt Br Ro hm47 ht hZ hJ
          refine hv_iload_n C 3 3 dX2_giveTurns_47 rfl rfl ?_
          refine hv_bipush C dX2_giveTurns_48 (by decide) ?_
          refine hv_icmp_ge C 95 dX2_giveTurns_50 (by decide) (by omega) (by omega) (fun h50 => ?_) (fun h50 => ?_)
          · skip
            rw [show t = 6 by omega] at hZ
            have zZ : (gtB (τ 13) (τ 14) (τ 17) (fl + 1) k sm (τ 16, τ 15, τ 12 3)) = (Ro, Br, bt) := zZ0.trans hZ
            exact zt_vret C hr hlk (by rw [zZ]; first | done | rfl | exact gtE τ) dX2_giveTurns_95
          · skip
            refine hv_aload_n C 0 0 dX2_giveTurns_53 rfl rfl ?_
            refine hv_iload_n C 1 1 dX2_giveTurns_54 rfl rfl ?_
            refine hv_iload_n C 3 3 dX2_giveTurns_55 rfl rfl ?_
            refine zt_callV [.int (iz ((k : Nat) : Int)), .int (iz ((t : Nat) : Int))] [] C K (cw_at 12 rfl) rfl (k_X2_fits l  (sA (sA (sA τ 12 (ua (τ 12) 3 bt)) 15 Br) 16 Ro) k ((t : Nat) : Int) (by omega) (by omega) hJ.2.2.2.2 a4) ck_X2_50 ⟨by dsimp only; omega, by dsimp only; omega⟩ ⟨Nat.zero_le _, Nat.zero_le _⟩ rfl (Nat.le_of_ble_eq_true rfl) dX2_giveTurns_56 ?_
            refine hv_as (xb (fi9 (τ 13) Ro k ((t : Nat) : Int) k)) rfl ?_
            refine hv_bif_eq C 89 dX2_giveTurns_59 (by decide)  (fun h59 => ?_) (fun h59 => ?_)
            · skip
              have zo : (gtO (gtB (τ 13) (τ 14) (τ 17) fl) (τ 13) (τ 14) k sm) t (Ro, Br, bt) = (Ro, Br, bt) := by unfold gtO; first | exact if_pos h59 | exact if_neg (by rw [h59]; decide)
              have zJ := gtI_R hJ (zR t (by omega) (Ro, Br, bt))
              rw [zo] at zJ
              have zv : gtW (gtO (gtB (τ 13) (τ 14) (τ 17) fl) (τ 13) (τ 14) k sm) (t + 1) (τ 16, τ 15, τ 12 3) = (Ro, Br, bt) := by unfold gtW; rw [hZ]; exact zo
              refine hv_iinc C 3 3 [(3, .int (iz (((t : Nat) : Int) + 1))), (0, .ref (b + 12)), (1, .int (iz ((k : Nat) : Int))), (2, .int (iz sm))] dX2_giveTurns_89 rfl (by decide) rfl ?_
              refine hv_goto C 47 dX2_giveTurns_92 (by decide) ?_
              refine hv_loc [1, 2, 3, 0] [(0, .ref (b + 12)), (1, .int (iz ((k : Nat) : Int))), (2, .int (iz sm)), (3, .int (iz (((t : Nat) : Int) + 1)))] rfl ?_
              exact ih47 (t + 1) bt Br Ro (by omega) (by omega) zv zJ
            · skip
              have zw := a5 (6 * k + t) (by omega)
              refine hv_aload_n C 0 0 dX2_giveTurns_62 rfl rfl ?_
              refine zc_get C K (v := .ref (b + 16)) 5 rfl hu_3 (by decide) (cw_at 12 rfl) rfl fl_X2_21 rfl dX2_giveTurns_63 ?_
              refine hv_iload_n C 1 1 dX2_giveTurns_66 rfl rfl ?_
              refine hv_iload_n C 3 3 dX2_giveTurns_67 rfl rfl ?_
              refine zc_iast C K (f := Ro) k (cw_at 16 rfl) (cw_set 16 k ((t : Nat) : Int) rfl) (by omega) (by omega) (by decide) dX2_giveTurns_68 ?_
              refine zt_st (τ2 := sA (sA (sA τ 12 (ua (τ 12) 3 bt)) 15 Br) 16 (ua Ro k ((t : Nat) : Int))) (by rw [u2_sA, sA_sA]; first | done | rfl) ?_
              refine hv_aload_n C 0 0 dX2_giveTurns_69 rfl rfl ?_
              refine hv_iload_n C 1 1 dX2_giveTurns_70 rfl rfl ?_
              refine hv_iconst C dX2_giveTurns_71 ?_
              refine hv_iadd C dX2_giveTurns_72 ?_
              refine hv_iload_n C 2 2 dX2_giveTurns_73 rfl rfl ?_
              refine hv_aload_n C 0 0 dX2_giveTurns_74 rfl rfl ?_
              refine zc_get C K (v := .ref (b + 14)) 2 rfl hu_3 (by decide) (cw_at 12 rfl) rfl fl_X2_15 rfl dX2_giveTurns_75 ?_
              refine hv_bipush C dX2_giveTurns_78 (by decide) ?_
              refine hv_iload_n C 1 1 dX2_giveTurns_80 rfl rfl ?_
              refine hv_imul C dX2_giveTurns_81 ?_
              refine hv_iload_n C 3 3 dX2_giveTurns_82 rfl rfl ?_
              refine hv_iadd C dX2_giveTurns_83 ?_
              refine zc_iald C K (f := (τ 14)) ((6 * k) + t) (cw_at 14 rfl) (by omega) (by omega) (by decide) dX2_giveTurns_84 ?_
              refine hv_as (τ 14 ((6 * k) + t)) rfl ?_
              refine hv_iadd C dX2_giveTurns_85 ?_
              refine zt_callV [.int (iz (((k : Nat) : Int) + 1)), .int (iz (sm + (τ 14 ((6 * k) + t))))] [] C K (cw_at 12 rfl) rfl (hG (sA (sA (sA τ 12 (ua (τ 12) 3 bt)) 15 Br) 16 (ua Ro k ((t : Nat) : Int))) (k + 1) (sm + (τ 14 ((6 * k) + t))) hnp (by omega) (gtI_s hJ (by omega))) ck_X2_46 ⟨by dsimp only; omega, by dsimp only; omega⟩ ⟨Nat.zero_le _, Nat.zero_le _⟩ rfl (Nat.le_of_ble_eq_true rfl) dX2_giveTurns_86 ?_
              refine zt_st (τ2 := sA (sA (sA τ 12 (ua (τ 12) 3 ((gtB (τ 13) (τ 14) (τ 17) fl (k + 1) (sm + (τ 14 ((6 * k) + t))) ((ua Ro k ((t : Nat) : Int)), Br, bt)).2.2))) 15 (gtB (τ 13) (τ 14) (τ 17) fl (k + 1) (sm + (τ 14 ((6 * k) + t))) ((ua Ro k ((t : Nat) : Int)), Br, bt)).2.1) 16 (gtB (τ 13) (τ 14) (τ 17) fl (k + 1) (sm + (τ 14 ((6 * k) + t))) ((ua Ro k ((t : Nat) : Int)), Br, bt)).1) (by first | rfl | (funext j9; by_cases hj12 : j9 = 12; (subst hj12; first | rfl | exact ua_ua | exact ua_mid (by decide) | (funext i9; simp only [sA, ua]; (repeat' split) <;> first | rfl | (exfalso; omega) | (subst_vars; rfl))); by_cases hj15 : j9 = 15; (subst hj15; first | rfl | exact ua_ua | exact ua_mid (by decide) | (funext i9; simp only [sA, ua]; (repeat' split) <;> first | rfl | (exfalso; omega) | (subst_vars; rfl))); by_cases hj16 : j9 = 16; (subst hj16; first | rfl | exact ua_ua | exact ua_mid (by decide) | (funext i9; simp only [sA, ua]; (repeat' split) <;> first | rfl | (exfalso; omega) | (subst_vars; rfl))); simp only [sA, if_neg hj12, if_neg hj15, if_neg hj16])) ?_
              have zo : (gtO (gtB (τ 13) (τ 14) (τ 17) fl) (τ 13) (τ 14) k sm) t (Ro, Br, bt) = ((gtB (τ 13) (τ 14) (τ 17) fl (k + 1) (sm + (τ 14 ((6 * k) + t))) ((ua Ro k ((t : Nat) : Int)), Br, bt)).1, (gtB (τ 13) (τ 14) (τ 17) fl (k + 1) (sm + (τ 14 ((6 * k) + t))) ((ua Ro k ((t : Nat) : Int)), Br, bt)).2.1, ((gtB (τ 13) (τ 14) (τ 17) fl (k + 1) (sm + (τ 14 ((6 * k) + t))) ((ua Ro k ((t : Nat) : Int)), Br, bt)).2.2)) := by unfold gtO; first | exact if_pos h59 | exact if_neg (by rw [h59]; decide)
              have zJ := gtI_R hJ (zR t (by omega) (Ro, Br, bt))
              rw [zo] at zJ
              have zv : gtW (gtO (gtB (τ 13) (τ 14) (τ 17) fl) (τ 13) (τ 14) k sm) (t + 1) (τ 16, τ 15, τ 12 3) = ((gtB (τ 13) (τ 14) (τ 17) fl (k + 1) (sm + (τ 14 ((6 * k) + t))) ((ua Ro k ((t : Nat) : Int)), Br, bt)).1, (gtB (τ 13) (τ 14) (τ 17) fl (k + 1) (sm + (τ 14 ((6 * k) + t))) ((ua Ro k ((t : Nat) : Int)), Br, bt)).2.1, ((gtB (τ 13) (τ 14) (τ 17) fl (k + 1) (sm + (τ 14 ((6 * k) + t))) ((ua Ro k ((t : Nat) : Int)), Br, bt)).2.2)) := by unfold gtW; rw [hZ]; exact zo
              refine hv_iinc C 3 3 [(3, .int (iz (((t : Nat) : Int) + 1))), (0, .ref (b + 12)), (1, .int (iz ((k : Nat) : Int))), (2, .int (iz sm))] dX2_giveTurns_89 rfl (by decide) rfl ?_
              refine hv_goto C 47 dX2_giveTurns_92 (by decide) ?_
              refine hv_loc [1, 2, 3, 0] [(0, .ref (b + 12)), (1, .int (iz ((k : Nat) : Int))), (2, .int (iz sm)), (3, .int (iz (((t : Nat) : Int) + 1)))] rfl ?_
              exact ih47 (t + 1) ((gtB (τ 13) (τ 14) (τ 17) fl (k + 1) (sm + (τ 14 ((6 * k) + t))) ((ua Ro k ((t : Nat) : Int)), Br, bt)).2.2) (gtB (τ 13) (τ 14) (τ 17) fl (k + 1) (sm + (τ 14 ((6 * k) + t))) ((ua Ro k ((t : Nat) : Int)), Br, bt)).2.1 (gtB (τ 13) (τ 14) (τ 17) fl (k + 1) (sm + (τ 14 ((6 * k) + t))) ((ua Ro k ((t : Nat) : Int)), Br, bt)).1 (by omega) (by omega) zv zJ
      refine hv_loc [1, 2, 3, 0] [(0, .ref (b + 12)), (1, .int (iz ((k : Nat) : Int))), (2, .int (iz sm)), (3, .int (iz 0))] rfl ?_
      refine zt_st (τ2 := sA τ 15 (τ 15)) ((sA_id τ 15).symm) ?_
      refine zt_st (τ2 := sA (sA τ 15 (τ 15)) 16 (τ 16)) ((sA_id (sA τ 15 (τ 15)) 16).symm) ?_
      refine zt_st (τ2 := sA (sA (sA τ 12 (ua (τ 12) 3 (τ 12 3))) 15 (τ 15)) 16 (τ 16)) ((fid9 (sA (sA τ 15 (τ 15)) 16 (τ 16)) 12 3 (v := τ 12 3) (by rfl)).trans (by rw [sA_comm (j := 16) (k := 12) (by decide), sA_comm (j := 15) (k := 12) (by decide)]; first | done | rfl)) ?_
      exact L47 _ 0 (τ 12 3) (τ 15) (τ 16) (Nat.lt_succ_self _) (by omega) rfl hI
    · skip
      exfalso; omega
  · skip
    have zZ : (gtB (τ 13) (τ 14) (τ 17) (fl + 1) k sm (τ 16, τ 15, τ 12 3)) = (τ 16, τ 15, τ 12 3) := if_pos (by show sm + τ 17 k ≤ τ 12 3; omega)
    exact zt_vret C hr hlk (by rw [zZ]; first | done | rfl | exact gtE τ) dX2_giveTurns_15
theorem fl_X2_18 : Cond.fieldLink RX2 18 "HookUps$Evening" (TX2 4).2.1 (TX2 4).2.2.1 ∈ hk_tb := hk_tq1 82 (by decide +kernel) (by decide +kernel)
theorem ac_X2_31 : Cond.methodLink RX2 31 arraycopyName ∈ hk_tb := hk_tq5 78 (by decide +kernel) (by decide +kernel)
set_option maxRecDepth 100000 in
set_option maxHeartbeats 4000000 in
theorem k_gt_0 (l : Launch) {D : va_G} {ar : Nat → ClassId} {B : Nat → Prop} {b n : Nat} {w0 : zcW} (np : Nat) (τ : Nat → Nat → Int) (k : Nat) (sm : Int) (hnp : τ 12 0 = (np : Int)) (hkf : k + 0 = np) (hI : gtI (τ 13) (τ 14) (τ 17) (τ 16) 0 k sm (τ 12 3)) : zt_M l D ar B b w0 n yX2_giveTurns cX2_giveTurns 4 none (0 + 3) (60 * 0 + 60) [.ref (b + 12), .int (iz ((k : Nat) : Int)), .int (iz sm)] τ none (sA (sA (sA τ 12 (ua (τ 12) 3 (gtB (τ 13) (τ 14) (τ 17) 0 k sm (τ 16, τ 15, τ 12 3)).2.2)) 15 (gtB (τ 13) (τ 14) (τ 17) 0 k sm (τ 16, τ 15, τ 12 3)).2.1) 16 (gtB (τ 13) (τ 14) (τ 17) 0 k sm (τ 16, τ 15, τ 12 3)).1) := by
  refine zc_start (own := RX2) (by decide +kernel) rfl (Nat.le_of_ble_eq_true rfl) ?_
  intro p e s m args below meth c C K hr hlk hnam
  obtain ⟨⟨a1, a2, a3⟩, a4, a5, a6, a7⟩ := id hI
  have zmo := a6 k (by omega)
  refine hv_iload_n C 2 2 dX2_giveTurns_0 rfl rfl ?_
  refine hv_aload_n C 0 0 dX2_giveTurns_1 rfl rfl ?_
  refine zc_get C K (v := .ref (b + 17)) 6 rfl hu_3 (by decide) (cw_at 12 rfl) rfl fl_X2_24 rfl dX2_giveTurns_2 ?_
  refine hv_iload_n C 1 1 dX2_giveTurns_5 rfl rfl ?_
  refine zc_iald C K (f := (τ 17)) k (cw_at 17 rfl) (by omega) (by omega) (by decide) dX2_giveTurns_6 ?_
  refine hv_as (τ 17 k) rfl ?_
  refine hv_iadd C dX2_giveTurns_7 ?_
  refine hv_aload_n C 0 0 dX2_giveTurns_8 rfl rfl ?_
  refine zc_get C K (v := .int (iz (τ 12 3))) 3 rfl hu_3 (by decide) (cw_at 12 rfl) rfl fl_X2_43 rfl dX2_giveTurns_9 ?_
  refine hv_icmp_gt C 16 dX2_giveTurns_12 (by decide) (by omega) (by omega) (fun h12 => ?_) (fun h12 => ?_)
  · skip
    refine hv_iload_n C 1 1 dX2_giveTurns_16 rfl rfl ?_
    refine hv_aload_n C 0 0 dX2_giveTurns_17 rfl rfl ?_
    refine zc_get C K (v := .int (iz (τ 12 0))) 0 rfl hu_3 (by decide) (cw_at 12 rfl) rfl fl_X2_27 rfl dX2_giveTurns_18 ?_
    refine hv_icmp_lt C 45 dX2_giveTurns_21 (by decide) (by omega) (by omega) (fun h21 => ?_) (fun h21 => ?_)
    · skip
      exfalso; omega
    · skip
      refine hv_aload_n C 0 0 dX2_giveTurns_24 rfl rfl ?_
      refine hv_iload_n C 2 2 dX2_giveTurns_25 rfl rfl ?_
      refine zc_put C K 3 rfl hu_3 tyX2 tyX2_ok nmX2 (by decide) (cw_at 12 rfl) (cw_set 12 3 sm rfl) fl_X2_43 rfl rfl (ty := .int) (by decide +kernel) rfl rfl (Nat.le_of_ble_eq_true rfl) dX2_giveTurns_26 ?_
      refine zt_st (τ2 := sA τ 12 (ua (τ 12) 3 sm)) (by rw [u2_sA]; first | done | rfl) ?_
      refine hv_aload_n C 0 0 dX2_giveTurns_29 rfl rfl ?_
      refine zc_get C K (v := .ref (b + 16)) 5 rfl hu_3 (by decide) (cw_at 12 rfl) rfl fl_X2_21 rfl dX2_giveTurns_30 ?_
      refine hv_iconst C dX2_giveTurns_33 ?_
      refine hv_aload_n C 0 0 dX2_giveTurns_34 rfl rfl ?_
      refine zc_get C K (v := .ref (b + 15)) 4 rfl hu_3 (by decide) (cw_at 12 rfl) rfl fl_X2_18 rfl dX2_giveTurns_35 ?_
      refine hv_iconst C dX2_giveTurns_38 ?_
      refine hv_bipush C dX2_giveTurns_39 (by decide) ?_
      refine zc_cpi C K (f := (τ 16)) (g := (τ 15)) 0 6 rfl (cw_at 16 rfl) (cw_at 15 rfl) rfl rfl (by decide) (by decide) (by decide) (fun i z => rfl) (cw_setA 15 (cpy9 (τ 16) (τ 15) 6) rfl) ac_X2_31 (by dsimp only; omega) (by show 0 + 18 ≤ (60 * 0 + 60); omega) dX2_giveTurns_41 ?_
      have zZ : (gtB (τ 13) (τ 14) (τ 17) 0 k sm (τ 16, τ 15, τ 12 3)) = (τ 16, cpy9 (τ 16) (τ 15) 6, sm) := if_neg (by show ¬ sm + τ 17 k ≤ τ 12 3; omega)
      exact zt_vret C hr hlk (by rw [zZ]; first | done | rfl | exact gtE τ | exact (sA_id _ 16).symm) dX2_giveTurns_44
  · skip
    have zZ : (gtB (τ 13) (τ 14) (τ 17) 0 k sm (τ 16, τ 15, τ 12 3)) = (τ 16, τ 15, τ 12 3) := if_pos (by show sm + τ 17 k ≤ τ 12 3; omega)
    exact zt_vret C hr hlk (by rw [zZ]; first | done | rfl | exact gtE τ | exact (sA_id _ 16).symm) dX2_giveTurns_15
theorem gtK_all (l : Launch) {D : va_G} {ar : Nat → ClassId} {B : Nat → Prop} {b n : Nat} {w0 : zcW} {np : Nat} : ∀ f : Nat, gtK l D ar B b w0 n np f
  | 0 => fun τ k sm h1 h2 h3 => k_gt_0 l np τ k sm h1 h2 h3
  | f + 1 => fun τ k sm h1 h2 h3 => k_gt_S l np f τ k sm h1 h2 h3 (gtK_all l f)
theorem dX2_findBest_0 : decode cX2_findBest 0 = .ok (.aload_n 0, 1) := by decide +kernel
theorem dX2_findBest_1 : decode cX2_findBest 1 = .ok (.getfield 24, 3) := by decide +kernel
theorem dX2_findBest_4 : decode cX2_findBest 4 = .ok (.aload_n 0, 1) := by decide +kernel
theorem dX2_findBest_5 : decode cX2_findBest 5 = .ok (.getfield 27, 3) := by decide +kernel
theorem dX2_findBest_8 : decode cX2_findBest 8 = .ok (.iconst 0, 1) := by decide +kernel
theorem dX2_findBest_9 : decode cX2_findBest 9 = .ok (.iastore, 1) := by decide +kernel
theorem dX2_findBest_10 : decode cX2_findBest 10 = .ok (.aload_n 0, 1) := by decide +kernel
theorem dX2_findBest_11 : decode cX2_findBest 11 = .ok (.getfield 27, 3) := by decide +kernel
theorem dX2_findBest_14 : decode cX2_findBest 14 = .ok (.iconst 1, 1) := by decide +kernel
theorem dX2_findBest_15 : decode cX2_findBest 15 = .ok (.isub, 1) := by decide +kernel
theorem dX2_findBest_16 : decode cX2_findBest 16 = .ok (.istore_n 1, 1) := by decide +kernel
theorem dX2_findBest_17 : decode cX2_findBest 17 = .ok (.iload_n 1, 1) := by decide +kernel
theorem dX2_findBest_18 : decode cX2_findBest 18 = .ok (.ifCond .lt 57, 3) := by decide +kernel
theorem dX2_findBest_21 : decode cX2_findBest 21 = .ok (.iconst 0, 1) := by decide +kernel
theorem dX2_findBest_22 : decode cX2_findBest 22 = .ok (.istore_n 2, 1) := by decide +kernel
theorem dX2_findBest_23 : decode cX2_findBest 23 = .ok (.iconst 0, 1) := by decide +kernel
theorem dX2_findBest_24 : decode cX2_findBest 24 = .ok (.istore_n 3, 1) := by decide +kernel
theorem dX2_findBest_25 : decode cX2_findBest 25 = .ok (.iload_n 3, 1) := by decide +kernel
theorem dX2_findBest_26 : decode cX2_findBest 26 = .ok (.bipush 6, 2) := by decide +kernel
theorem dX2_findBest_28 : decode cX2_findBest 28 = .ok (.if_icmp .ge 25, 3) := by decide +kernel
theorem dX2_findBest_31 : decode cX2_findBest 31 = .ok (.iload_n 2, 1) := by decide +kernel
theorem dX2_findBest_32 : decode cX2_findBest 32 = .ok (.aload_n 0, 1) := by decide +kernel
theorem dX2_findBest_33 : decode cX2_findBest 33 = .ok (.getfield 15, 3) := by decide +kernel
theorem dX2_findBest_36 : decode cX2_findBest 36 = .ok (.bipush 6, 2) := by decide +kernel
theorem dX2_findBest_38 : decode cX2_findBest 38 = .ok (.iload_n 1, 1) := by decide +kernel
theorem dX2_findBest_39 : decode cX2_findBest 39 = .ok (.imul, 1) := by decide +kernel
theorem dX2_findBest_40 : decode cX2_findBest 40 = .ok (.iload_n 3, 1) := by decide +kernel
theorem dX2_findBest_41 : decode cX2_findBest 41 = .ok (.iadd, 1) := by decide +kernel
theorem dX2_findBest_42 : decode cX2_findBest 42 = .ok (.iaload, 1) := by decide +kernel
theorem dX2_findBest_43 : decode cX2_findBest 43 = .ok (.invokestatic 37, 3) := by decide +kernel
theorem dX2_findBest_46 : decode cX2_findBest 46 = .ok (.istore_n 2, 1) := by decide +kernel
theorem dX2_findBest_47 : decode cX2_findBest 47 = .ok (.iinc 3 1, 3) := by decide +kernel
theorem dX2_findBest_50 : decode cX2_findBest 50 = .ok (.goto (-25), 3) := by decide +kernel
theorem dX2_findBest_53 : decode cX2_findBest 53 = .ok (.aload_n 0, 1) := by decide +kernel
theorem dX2_findBest_54 : decode cX2_findBest 54 = .ok (.getfield 24, 3) := by decide +kernel
theorem dX2_findBest_57 : decode cX2_findBest 57 = .ok (.iload_n 1, 1) := by decide +kernel
theorem dX2_findBest_58 : decode cX2_findBest 58 = .ok (.aload_n 0, 1) := by decide +kernel
theorem dX2_findBest_59 : decode cX2_findBest 59 = .ok (.getfield 24, 3) := by decide +kernel
theorem dX2_findBest_62 : decode cX2_findBest 62 = .ok (.iload_n 1, 1) := by decide +kernel
theorem dX2_findBest_63 : decode cX2_findBest 63 = .ok (.iconst 1, 1) := by decide +kernel
theorem dX2_findBest_64 : decode cX2_findBest 64 = .ok (.iadd, 1) := by decide +kernel
theorem dX2_findBest_65 : decode cX2_findBest 65 = .ok (.iaload, 1) := by decide +kernel
theorem dX2_findBest_66 : decode cX2_findBest 66 = .ok (.iload_n 2, 1) := by decide +kernel
theorem dX2_findBest_67 : decode cX2_findBest 67 = .ok (.iadd, 1) := by decide +kernel
theorem dX2_findBest_68 : decode cX2_findBest 68 = .ok (.iastore, 1) := by decide +kernel
theorem dX2_findBest_69 : decode cX2_findBest 69 = .ok (.iinc 1 (-1), 3) := by decide +kernel
theorem dX2_findBest_72 : decode cX2_findBest 72 = .ok (.goto (-55), 3) := by decide +kernel
theorem dX2_findBest_75 : decode cX2_findBest 75 = .ok (.aload_n 0, 1) := by decide +kernel
theorem dX2_findBest_76 : decode cX2_findBest 76 = .ok (.iconst (-1), 1) := by decide +kernel
theorem dX2_findBest_77 : decode cX2_findBest 77 = .ok (.putfield 43, 3) := by decide +kernel
theorem dX2_findBest_80 : decode cX2_findBest 80 = .ok (.aload_n 0, 1) := by decide +kernel
theorem dX2_findBest_81 : decode cX2_findBest 81 = .ok (.iconst 0, 1) := by decide +kernel
theorem dX2_findBest_82 : decode cX2_findBest 82 = .ok (.iconst 0, 1) := by decide +kernel
theorem dX2_findBest_83 : decode cX2_findBest 83 = .ok (.invokevirtual 46, 3) := by decide +kernel
theorem dX2_findBest_86 : decode cX2_findBest 86 = .ok (.return_, 1) := by decide +kernel
theorem ck_X2_37 : zcS RX2 yJ9_max_7cf53 cJ9_max_7cf53 2 (some .int) 37 2 := ⟨hk_tq2 155 (by decide +kernel) (by decide +kernel), hk_tq5 73 (by decide +kernel) (by decide +kernel), hk_tq1 14 (by decide +kernel) (by decide +kernel), ⟨by decide, by decide, by decide +kernel⟩, hk_tq2 154 (by decide +kernel) (by decide +kernel)⟩
set_option maxRecDepth 100000 in
set_option maxHeartbeats 4000000 in
theorem k_X2_findBest (l : Launch) {D : va_G} {ar : Nat → ClassId} {B : Nat → Prop} {b n : Nat} {w0 : zcW} (np : Nat) (τ : Nat → Nat → Int)  (hnp : τ 12 0 = (np : Int)) (hn6 : np ≤ 6) (hW : ∀ i, i < 36 → 0 ≤ τ 14 i ∧ τ 14 i ≤ 9999) (hSo : ∀ i, i < 6 → inI (τ 13 i)) : zs_M l D ar B b w0 n yX2_findBest cX2_findBest 4 none 10 460 [.ref (b + 12)] τ none (fun (X : Nat → Nat → Int) => sA (sA (sA (sA τ 12 (ua (τ 12) 3 (gtB (τ 13) (τ 14) (mo9 (τ 14) (τ 17) np np) np 0 0 (τ 16, τ 15, -1)).2.2)) 15 (gtB (τ 13) (τ 14) (mo9 (τ 14) (τ 17) np np) np 0 0 (τ 16, τ 15, -1)).2.1) 16 (X 16)) 17 (X 17)) := by
  refine zc_start (own := RX2) (by decide +kernel) rfl (Nat.le_of_ble_eq_true rfl) ?_
  intro p e s m args below meth c C K hr hlk hnam
  refine hv_aload_n C 0 0 dX2_findBest_0 rfl rfl ?_
  refine zc_get C K (v := .ref (b + 17)) 6 rfl hu_3 (by decide) (cw_at 12 rfl) rfl fl_X2_24 rfl dX2_findBest_1 ?_
  refine hv_aload_n C 0 0 dX2_findBest_4 rfl rfl ?_
  refine zc_get C K (v := .int (iz (τ 12 0))) 0 rfl hu_3 (by decide) (cw_at 12 rfl) rfl fl_X2_27 rfl dX2_findBest_5 ?_
  refine hv_as (((np : Nat) : Int)) hnp ?_
  refine hv_iconst C dX2_findBest_8 ?_
  refine zc_iast C K (f := (τ 17)) np (cw_at 17 rfl) (cw_set 17 np 0 rfl) (by omega) (by omega) (by decide) dX2_findBest_9 ?_
  refine zt_st (τ2 := sA τ 17 (ua (τ 17) np 0)) (by rw [u2_sA]; first | done | rfl) ?_
  refine hv_aload_n C 0 0 dX2_findBest_10 rfl rfl ?_
  refine zc_get C K (v := .int (iz (τ 12 0))) 0 rfl hu_3 (by decide) (cw_at 12 rfl) rfl fl_X2_27 rfl dX2_findBest_11 ?_
  refine hv_as (((np : Nat) : Int)) hnp ?_
  refine hv_iconst C dX2_findBest_14 ?_
  refine hv_isub C dX2_findBest_15 ?_
  refine hv_istore_n C 1 [(1, .int (iz (((np : Nat) : Int) - 1))), (0, .ref (b + 12))] dX2_findBest_16 rfl (by decide) rfl ?_
  have L17 : ∀ (f : Nat) (pq : Int) (M : Nat → Int), (pq + 1).toNat < f → (-1 ≤ pq ∧ pq < (np : Int)) → (M = mo9 (τ 14) (τ 17) np ((np : Int) - 1 - pq).toNat) → hvV p l e { frames := 10, cells := 0, slots := 0, locals := 460 } s m args below meth c 4 B 0 0 (MQ below (zc_Q D B (fun r' w' n' => r' = none ∧ (∃ X : Nat → Nat → Int, w' = cw ar b (sA (sA (sA (sA τ 12 (ua (τ 12) 3 (gtB (τ 13) (τ 14) (mo9 (τ 14) (τ 17) np np) np 0 0 (τ 16, τ 15, -1)).2.2)) 15 (gtB (τ 13) (τ 14) (mo9 (τ 14) (τ 17) np np) np 0 0 (τ 16, τ 15, -1)).2.1) 16 (X 16)) 17 (X 17)) w0) ∧ n' = n)) args s 0 0 B) (zc_I D B (cw ar b (sA τ 17 M) w0) n s.heap) 17 [(0, .ref (b + 12)), (1, .int (iz pq))] [] := by
    intro f
    induction f with
    | zero => intro _ _ hm; exact absurd hm (Nat.not_lt_zero _)
    | succ f ih17 =>
      intro pq M hm17 hp hM
      refine hv_iload_n C 1 1 dX2_findBest_17 rfl rfl ?_
      refine hv_if_lt C 75 dX2_findBest_18 (by decide) (by omega) (fun h18 => ?_) (fun h18 => ?_)
      · skip
        have zM : M = mo9 (τ 14) (τ 17) np np := by rw [hM, show ((np : Int) - 1 - pq).toNat = np by omega]
        refine hv_aload_n C 0 0 dX2_findBest_75 rfl rfl ?_
        refine hv_iconst C dX2_findBest_76 ?_
        refine zc_put C K 3 rfl hu_3 tyX2 tyX2_ok nmX2 (by decide) (cw_at 12 rfl) (cw_set 12 3 (-1) rfl) fl_X2_43 rfl rfl (ty := .int) (by decide +kernel) rfl rfl (Nat.le_of_ble_eq_true rfl) dX2_findBest_77 ?_
        refine zt_st (τ2 := sA (sA τ 12 (ua (τ 12) 3 (-1))) 17 M) (by rw [u2_sA, sA_comm (j := 17) (k := 12) (by decide)]; first | done | rfl) ?_
        refine hv_aload_n C 0 0 dX2_findBest_80 rfl rfl ?_
        refine hv_iconst C dX2_findBest_81 ?_
        refine hv_iconst C dX2_findBest_82 ?_
        refine zt_callV [.int (iz 0), .int (iz 0)] [] C K (cw_at 12 rfl) rfl (gtK_all l np (sA (sA τ 12 (ua (τ 12) 3 (-1))) 17 M) 0 0 hnp (by omega) (by rw [zM]; exact gtI_0 hn6 hW hSo)) ck_X2_46 ⟨by dsimp only; omega, by dsimp only; omega⟩ ⟨Nat.zero_le _, Nat.zero_le _⟩ rfl (Nat.le_of_ble_eq_true rfl) dX2_findBest_83 ?_
        refine zt_st (τ2 := sA (sA (sA (sA τ 12 (ua (τ 12) 3 ((gtB (τ 13) (τ 14) M np 0 0 ((τ 16), (τ 15), (-1))).2.2))) 15 (gtB (τ 13) (τ 14) M np 0 0 ((τ 16), (τ 15), (-1))).2.1) 16 (gtB (τ 13) (τ 14) M np 0 0 ((τ 16), (τ 15), (-1))).1) 17 M) (by first | rfl | (funext j9; by_cases hj12 : j9 = 12; (subst hj12; first | rfl | exact ua_ua | exact ua_mid (by decide) | (funext i9; simp only [sA, ua]; (repeat' split) <;> first | rfl | (exfalso; omega) | (subst_vars; rfl))); by_cases hj15 : j9 = 15; (subst hj15; first | rfl | exact ua_ua | exact ua_mid (by decide) | (funext i9; simp only [sA, ua]; (repeat' split) <;> first | rfl | (exfalso; omega) | (subst_vars; rfl))); by_cases hj16 : j9 = 16; (subst hj16; first | rfl | exact ua_ua | exact ua_mid (by decide) | (funext i9; simp only [sA, ua]; (repeat' split) <;> first | rfl | (exfalso; omega) | (subst_vars; rfl))); by_cases hj17 : j9 = 17; (subst hj17; first | rfl | exact ua_ua | exact ua_mid (by decide) | (funext i9; simp only [sA, ua]; (repeat' split) <;> first | rfl | (exfalso; omega) | (subst_vars; rfl))); simp only [sA, if_neg hj12, if_neg hj15, if_neg hj16, if_neg hj17])) ?_
        have zZ : gtB (τ 13) (τ 14) M np 0 0 (τ 16, τ 15, -1) = (gtB (τ 13) (τ 14) (mo9 (τ 14) (τ 17) np np) np 0 0 (τ 16, τ 15, -1)) := by rw [zM]
        exact zs_vret C hr hlk ⟨(sA (sA (sA (sA τ 12 (ua (τ 12) 3 ((gtB (τ 13) (τ 14) M np 0 0 ((τ 16), (τ 15), (-1))).2.2))) 15 (gtB (τ 13) (τ 14) M np 0 0 ((τ 16), (τ 15), (-1))).2.1) 16 (gtB (τ 13) (τ 14) M np 0 0 ((τ 16), (τ 15), (-1))).1) 17 M), by rw [← zZ]; first | rfl | (funext j9; by_cases hj12 : j9 = 12; (subst hj12; first | rfl | exact ua_idq _ _ | (funext i9; simp only [sA, ua]; split <;> first | rfl | (subst_vars; rfl))); by_cases hj15 : j9 = 15; (subst hj15; first | rfl | exact ua_idq _ _ | (funext i9; simp only [sA, ua]; split <;> first | rfl | (subst_vars; rfl))); by_cases hj16 : j9 = 16; (subst hj16; first | rfl | exact ua_idq _ _ | (funext i9; simp only [sA, ua]; split <;> first | rfl | (subst_vars; rfl))); by_cases hj17 : j9 = 17; (subst hj17; first | rfl | exact ua_idq _ _ | (funext i9; simp only [sA, ua]; split <;> first | rfl | (subst_vars; rfl))); simp only [sA, if_neg hj12, if_neg hj15, if_neg hj16, if_neg hj17])⟩ dX2_findBest_86
      · skip
        obtain ⟨pn, rfl⟩ : ∃ n9 : Nat, pq = (n9 : Int) := ⟨(pq).toNat, by omega⟩
        refine hv_iconst C dX2_findBest_21 ?_
        refine hv_istore_n C 2 [(2, .int (iz 0)), (0, .ref (b + 12)), (1, .int (iz ((pn : Nat) : Int)))] dX2_findBest_22 rfl (by decide) rfl ?_
        refine hv_iconst C dX2_findBest_23 ?_
        refine hv_istore_n C 3 [(3, .int (iz 0)), (2, .int (iz 0)), (0, .ref (b + 12)), (1, .int (iz ((pn : Nat) : Int)))] dX2_findBest_24 rfl (by decide) rfl ?_
        have L25 : ∀ (f : Nat) (dr : Int) (t : Nat), 6 - t < f → (t ≤ 6) → (dr = dx9 (τ 14) pn t) → (0 ≤ dr ∧ dr ≤ 9999) → hvV p l e { frames := 10, cells := 0, slots := 0, locals := 460 } s m args below meth c 4 B 0 0 (MQ below (zc_Q D B (fun r' w' n' => r' = none ∧ (∃ X : Nat → Nat → Int, w' = cw ar b (sA (sA (sA (sA τ 12 (ua (τ 12) 3 (gtB (τ 13) (τ 14) (mo9 (τ 14) (τ 17) np np) np 0 0 (τ 16, τ 15, -1)).2.2)) 15 (gtB (τ 13) (τ 14) (mo9 (τ 14) (τ 17) np np) np 0 0 (τ 16, τ 15, -1)).2.1) 16 (X 16)) 17 (X 17)) w0) ∧ n' = n)) args s 0 0 B) (zc_I D B (cw ar b (sA τ 17 M) w0) n s.heap) 25 [(0, .ref (b + 12)), (1, .int (iz ((pn : Nat) : Int))), (2, .int (iz dr)), (3, .int (iz ((t : Nat) : Int)))] [] := by
          intro f
          induction f with
          | zero => intro _ _ hm; exact absurd hm (Nat.not_lt_zero _)
          | succ f ih25 =>
            intro dr t hm25 ht hdr hd9
            refine hv_iload_n C 3 3 dX2_findBest_25 rfl rfl ?_
            refine hv_bipush C dX2_findBest_26 (by decide) ?_
            refine hv_icmp_ge C 53 dX2_findBest_28 (by decide) (by omega) (by omega) (fun h28 => ?_) (fun h28 => ?_)
            · skip
              refine hv_aload_n C 0 0 dX2_findBest_53 rfl rfl ?_
              refine zc_get C K (v := .ref (b + 17)) 6 rfl hu_3 (by decide) (cw_at 12 rfl) rfl fl_X2_24 rfl dX2_findBest_54 ?_
              refine hv_iload_n C 1 1 dX2_findBest_57 rfl rfl ?_
              refine hv_aload_n C 0 0 dX2_findBest_58 rfl rfl ?_
              refine zc_get C K (v := .ref (b + 17)) 6 rfl hu_3 (by decide) (cw_at 12 rfl) rfl fl_X2_24 rfl dX2_findBest_59 ?_
              refine hv_iload_n C 1 1 dX2_findBest_62 rfl rfl ?_
              refine hv_iconst C dX2_findBest_63 ?_
              refine hv_iadd C dX2_findBest_64 ?_
              refine zc_iald C K (f := M) (pn + 1) (cw_at 17 rfl) (by omega) (by omega) (by decide) dX2_findBest_65 ?_
              refine hv_iload_n C 2 2 dX2_findBest_66 rfl rfl ?_
              refine hv_iadd C dX2_findBest_67 ?_
              refine zc_iast C K (f := M) pn (cw_at 17 rfl) (cw_set 17 pn ((M (pn + 1)) + dr) rfl) (by omega) (by omega) (by decide) dX2_findBest_68 ?_
              refine zt_st (τ2 := sA τ 17 (ua M pn ((M (pn + 1)) + dr))) (by rw [u2_sA, sA_sA]; first | done | rfl) ?_
              refine hv_iinc C 1 1 [(1, .int (iz (((pn : Nat) : Int) + (-1)))), (0, .ref (b + 12)), (2, .int (iz dr)), (3, .int (iz ((t : Nat) : Int)))] dX2_findBest_69 rfl (by decide) rfl ?_
              refine hv_goto C 17 dX2_findBest_72 (by decide) ?_
              refine hv_loc [1, 0] [(0, .ref (b + 12)), (1, .int (iz (((pn : Nat) : Int) + (-1))))] rfl ?_
              exact ih17 (((pn : Nat) : Int) + (-1)) (ua M pn ((M (pn + 1)) + dr)) (by omega) (by omega) (by rw [show ((np : Int) - 1 - ((pn : Int) + -1)).toNat = ((np : Int) - 1 - (pn : Int)).toNat + 1 by omega, mo9, ← hM, show np - 1 - ((np : Int) - 1 - (pn : Int)).toNat = pn by omega, hdr, show t = 6 by omega])
            · skip
              refine hv_iload_n C 2 2 dX2_findBest_31 rfl rfl ?_
              refine hv_aload_n C 0 0 dX2_findBest_32 rfl rfl ?_
              refine zc_get C K (v := .ref (b + 14)) 2 rfl hu_3 (by decide) (cw_at 12 rfl) rfl fl_X2_15 rfl dX2_findBest_33 ?_
              refine hv_bipush C dX2_findBest_36 (by decide) ?_
              refine hv_iload_n C 1 1 dX2_findBest_38 rfl rfl ?_
              refine hv_imul C dX2_findBest_39 ?_
              refine hv_iload_n C 3 3 dX2_findBest_40 rfl rfl ?_
              refine hv_iadd C dX2_findBest_41 ?_
              have zw := hW (6 * pn + t) (by omega)
              refine zc_iald C K (f := (τ 14)) ((6 * pn) + t) (cw_at 14 rfl) (by omega) (by omega) (by decide) dX2_findBest_42 ?_
              refine hv_as (τ 14 ((6 * pn) + t)) rfl ?_
              refine zt_callS [.int (iz dr), .int (iz (τ 14 ((6 * pn) + t)))] [] C K (k_J9_max_7cf53 l  (sA τ 17 M) dr (τ 14 ((6 * pn) + t)) (by omega) (by omega)) ck_X2_37 ⟨by dsimp only; omega, by dsimp only; omega⟩ ⟨Nat.zero_le _, Nat.zero_le _⟩ rfl (Nat.le_of_ble_eq_true rfl) dX2_findBest_43 ?_
              refine hv_as ((if dr < (τ 14 ((6 * pn) + t)) then (τ 14 ((6 * pn) + t)) else dr)) rfl ?_
              refine hv_as ((zmx dr (τ 14 (6 * pn + t)))) rfl ?_
              refine hv_istore_n C 2 [(2, .int (iz (zmx dr (τ 14 (6 * pn + t))))), (0, .ref (b + 12)), (1, .int (iz ((pn : Nat) : Int))), (3, .int (iz ((t : Nat) : Int)))] dX2_findBest_46 rfl (by decide) rfl ?_
              refine hv_iinc C 3 3 [(3, .int (iz (((t : Nat) : Int) + 1))), (2, .int (iz (zmx dr (τ 14 (6 * pn + t))))), (0, .ref (b + 12)), (1, .int (iz ((pn : Nat) : Int)))] dX2_findBest_47 rfl (by decide) rfl ?_
              refine hv_goto C 25 dX2_findBest_50 (by decide) ?_
              refine hv_loc [2, 3, 1, 0] [(0, .ref (b + 12)), (1, .int (iz ((pn : Nat) : Int))), (2, .int (iz (zmx dr (τ 14 (6 * pn + t))))), (3, .int (iz (((t : Nat) : Int) + 1)))] rfl ?_
              exact ih25 (zmx dr (τ 14 (6 * pn + t))) (t + 1) (by omega) (by omega) (by rw [dx9, ← hdr]) (by unfold zmx; split <;> omega)
        refine hv_loc [2, 3, 1, 0] [(0, .ref (b + 12)), (1, .int (iz ((pn : Nat) : Int))), (2, .int (iz 0)), (3, .int (iz 0))] rfl ?_
        exact L25 _ 0 0 (Nat.lt_succ_self _) (by omega) rfl (by omega)
  refine hv_loc [1, 0] [(0, .ref (b + 12)), (1, .int (iz (((np : Nat) : Int) - 1)))] rfl ?_
  exact L17 _ (((np : Nat) : Int) - 1) (ua (τ 17) np 0) (Nat.lt_succ_self _) (by omega) (by rw [show ((np : Int) - 1 - ((np : Int) - 1)).toNat = 0 by omega]; rfl)
theorem dX11_plan_0 : decode cX11_plan 0 = .ok (.iload_n 1, 1) := by decide +kernel
theorem dX11_plan_1 : decode cX11_plan 1 = .ok (.iconst 0, 1) := by decide +kernel
theorem dX11_plan_2 : decode cX11_plan 2 = .ok (.aload_n 0, 1) := by decide +kernel
theorem dX11_plan_3 : decode cX11_plan 3 = .ok (.getfield 10, 3) := by decide +kernel
theorem dX11_plan_6 : decode cX11_plan 6 = .ok (.getfield 275, 3) := by decide +kernel
theorem dX11_plan_9 : decode cX11_plan 9 = .ok (.getfield 279, 3) := by decide +kernel
theorem dX11_plan_12 : decode cX11_plan 12 = .ok (.invokestatic 62, 3) := by decide +kernel
theorem dX11_plan_15 : decode cX11_plan 15 = .ok (.ifCond .ne 5, 3) := by decide +kernel
theorem dX11_plan_18 : decode cX11_plan 18 = .ok (.iconst (-1), 1) := by decide +kernel
theorem dX11_plan_19 : decode cX11_plan 19 = .ok (.ireturn, 1) := by decide +kernel
theorem dX11_plan_20 : decode cX11_plan 20 = .ok (.aload_n 0, 1) := by decide +kernel
theorem dX11_plan_21 : decode cX11_plan 21 = .ok (.getfield 10, 3) := by decide +kernel
theorem dX11_plan_24 : decode cX11_plan 24 = .ok (.getfield 275, 3) := by decide +kernel
theorem dX11_plan_27 : decode cX11_plan 27 = .ok (.invokevirtual 290, 3) := by decide +kernel
theorem dX11_plan_30 : decode cX11_plan 30 = .ok (.aload_n 0, 1) := by decide +kernel
theorem dX11_plan_31 : decode cX11_plan 31 = .ok (.getfield 10, 3) := by decide +kernel
theorem dX11_plan_34 : decode cX11_plan 34 = .ok (.getfield 275, 3) := by decide +kernel
theorem dX11_plan_37 : decode cX11_plan 37 = .ok (.getfield 293, 3) := by decide +kernel
theorem dX11_plan_40 : decode cX11_plan 40 = .ok (.iconst (-1), 1) := by decide +kernel
theorem dX11_plan_41 : decode cX11_plan 41 = .ok (.if_icmp .ne 5, 3) := by decide +kernel
theorem dX11_plan_44 : decode cX11_plan 44 = .ok (.iconst (-1), 1) := by decide +kernel
theorem dX11_plan_45 : decode cX11_plan 45 = .ok (.ireturn, 1) := by decide +kernel
theorem dX11_plan_46 : decode cX11_plan 46 = .ok (.iload_n 1, 1) := by decide +kernel
theorem dX11_plan_47 : decode cX11_plan 47 = .ok (.ifCond .ne 16, 3) := by decide +kernel
theorem dX11_plan_50 : decode cX11_plan 50 = .ok (.aload_n 0, 1) := by decide +kernel
theorem dX11_plan_51 : decode cX11_plan 51 = .ok (.getfield 10, 3) := by decide +kernel
theorem dX11_plan_54 : decode cX11_plan 54 = .ok (.getfield 275, 3) := by decide +kernel
theorem dX11_plan_57 : decode cX11_plan 57 = .ok (.getfield 293, 3) := by decide +kernel
theorem dX11_plan_60 : decode cX11_plan 60 = .ok (.goto 17, 3) := by decide +kernel
theorem dX11_plan_63 : decode cX11_plan 63 = .ok (.aload_n 0, 1) := by decide +kernel
theorem dX11_plan_64 : decode cX11_plan 64 = .ok (.getfield 10, 3) := by decide +kernel
theorem dX11_plan_67 : decode cX11_plan 67 = .ok (.getfield 275, 3) := by decide +kernel
theorem dX11_plan_70 : decode cX11_plan 70 = .ok (.getfield 296, 3) := by decide +kernel
theorem dX11_plan_73 : decode cX11_plan 73 = .ok (.iload_n 1, 1) := by decide +kernel
theorem dX11_plan_74 : decode cX11_plan 74 = .ok (.iconst 1, 1) := by decide +kernel
theorem dX11_plan_75 : decode cX11_plan 75 = .ok (.isub, 1) := by decide +kernel
theorem dX11_plan_76 : decode cX11_plan 76 = .ok (.iaload, 1) := by decide +kernel
theorem dX11_plan_77 : decode cX11_plan 77 = .ok (.ireturn, 1) := by decide +kernel
theorem ck_X11_290 : zcV RX11 RX2 yX2_findBest cX2_findBest 4 none 290 0 := ⟨hk_tq5 72 (by decide +kernel) (by decide +kernel), hk_tq5 69 (by decide +kernel) (by decide +kernel), hk_tq1 6 (by decide +kernel) (by decide +kernel), ⟨by decide, by decide, by decide +kernel⟩, hk_tq5 70 (by decide +kernel) (by decide +kernel), hk_tq5 71 (by decide +kernel) (by decide +kernel)⟩
theorem fl_X11_293 : Cond.fieldLink RX11 293 "HookUps$Evening" (TX2 3).2.1 (TX2 3).2.2.1 ∈ hk_tb := hk_tq1 81 (by decide +kernel) (by decide +kernel)
theorem fl_X11_296 : Cond.fieldLink RX11 296 "HookUps$Evening" (TX2 4).2.1 (TX2 4).2.2.1 ∈ hk_tb := hk_tq1 83 (by decide +kernel) (by decide +kernel)
set_option maxRecDepth 100000 in
set_option maxHeartbeats 4000000 in
theorem k_X11_plan (l : Launch) {D : va_G} {ar : Nat → ClassId} {B : Nat → Prop} {b n : Nat} {w0 : zcW} (A : Nat → Int) (τ : Nat → Nat → Int) (what : Int) (hA : ∀ i, inI (A i)) (hR : Rel9 ar b w0 A τ) (hc : cn A) (hpi : piI A) (hSo : ∀ i, i < 6 → inI (τ 13 i)) (r_what : inI what) : zs_M l D ar B b w0 n yX11_plan cX11_plan 2 (some .int) 11 483 [.ref b, .int (iz what)] τ (some (.int (iz (if 0 ≤ what ∧ what ≤ A 7 then (if (gtB (τ 13) (τ 14) (mo9 (τ 14) (τ 17) (A 7).toNat (A 7).toNat) (A 7).toNat 0 0 (τ 16, τ 15, -1)).2.2 = -1 then -1 else if what = 0 then (gtB (τ 13) (τ 14) (mo9 (τ 14) (τ 17) (A 7).toNat (A 7).toNat) (A 7).toNat 0 0 (τ 16, τ 15, -1)).2.2 else (gtB (τ 13) (τ 14) (mo9 (τ 14) (τ 17) (A 7).toNat (A 7).toNat) (A 7).toNat 0 0 (τ 16, τ 15, -1)).2.1 (what - 1).toNat) else -1)))) (fun (X : Nat → Nat → Int) => sA (sA (sA (sA τ 12 (ua (τ 12) 3 (X 12 3))) 15 (X 15)) 16 (X 16)) 17 (X 17)) := by
  refine zc_start (own := RX11) (by decide +kernel) rfl (Nat.le_of_ble_eq_true rfl) ?_
  intro p e s m args below meth c C K hr hlk hnam
  have zi := hR.i
  unfold rlI at zi
  refine hv_iload_n C 1 1 dX11_plan_0 rfl rfl ?_
  refine hv_iconst C dX11_plan_1 ?_
  refine hv_aload_n C 0 0 dX11_plan_2 rfl rfl ?_
  refine zc_get C K (v := .ref (b + 1)) 0 rfl hu_12 (by decide) cw_0 rfl fl_X11_10 rfl dX11_plan_3 ?_
  refine zc_get C K (v := .ref (b + 12)) 18 rfl hu_9 (by decide) (cw_at 1 rfl) rfl fl_X11_275 rfl dX11_plan_6 ?_
  refine zc_get C K (v := .int (iz (τ 12 0))) 0 rfl hu_3 (by decide) (cw_at 12 rfl) rfl fl_X11_279 rfl dX11_plan_9 ?_
  refine hv_nm (fun x1 ex1 => ?_)
  have rx1 : inI x1 := by rw [ex1]; exact (by have z := hA 7; omega)
  refine zt_callS [.int (iz what), .int (iz 0), .int (iz x1)] [] C K (k_X11_within l  τ what 0 x1 (by omega) (by omega) (by omega)) ck_X11_62 (by decide) ⟨Nat.zero_le _, Nat.zero_le _⟩ rfl (Nat.le_of_ble_eq_true rfl) dX11_plan_12 ?_
  refine hv_as (xb (decide (0 ≤ what ∧ what ≤ x1))) rfl ?_
  refine hv_dif_ne C 20 dX11_plan_15 (by decide)  (fun h15 => ?_) (fun h15 => ?_)
  · skip
    obtain ⟨np, enp⟩ : ∃ q9 : Nat, A 7 = (q9 : Int) := ⟨(A 7).toNat, by omega⟩
    have hW : ∀ i, i < 36 → 0 ≤ τ 14 i ∧ τ 14 i ≤ 9999 := fun i q => by have z := hR.worths (i / 6) (i % 6) (by omega) (by omega); rw [show 6 * (i / 6) + i % 6 = i by omega] at z; rw [z]; split; (next c => have z2 := (hpi (i / 6) c).2 (i % 6) (by omega); exact z2); omega
    have zr : -1 ≤ (gtB (τ 13) (τ 14) (mo9 (τ 14) (τ 17) np np) np 0 0 (τ 16, τ 15, -1)).2.2 ∧ (gtB (τ 13) (τ 14) (mo9 (τ 14) (τ 17) np np) np 0 0 (τ 16, τ 15, -1)).2.2 ≤ 59994 := (gtB_R (τ 13) (τ 14) _ hW np 0 0 (τ 16, τ 15, -1) (by omega) (by omega) (by omega)).2 (by show -1 ≤ (-1 : Int) ∧ (-1 : Int) ≤ 59994; omega)
    have zA : (gtB (τ 13) (τ 14) (mo9 (τ 14) (τ 17) (A 7).toNat (A 7).toNat) (A 7).toNat 0 0 (τ 16, τ 15, -1)) = (gtB (τ 13) (τ 14) (mo9 (τ 14) (τ 17) np np) np 0 0 (τ 16, τ 15, -1)) := by rw [show (A 7).toNat = np by omega]
    refine hv_aload_n C 0 0 dX11_plan_20 rfl rfl ?_
    refine zc_get C K (v := .ref (b + 1)) 0 rfl hu_12 (by decide) cw_0 rfl fl_X11_10 rfl dX11_plan_21 ?_
    refine zc_get C K (v := .ref (b + 12)) 18 rfl hu_9 (by decide) (cw_at 1 rfl) rfl fl_X11_275 rfl dX11_plan_24 ?_
    refine zs_callV [] [] C K (cw_at 12 rfl) rfl (k_X2_findBest l np τ  (by omega) (by omega) hW hSo) ck_X11_290 (by decide) ⟨Nat.zero_le _, Nat.zero_le _⟩ rfl (Nat.le_of_ble_eq_true rfl) dX11_plan_27 (fun X2 => ?_)
    refine hv_aload_n C 0 0 dX11_plan_30 rfl rfl ?_
    refine zc_get C K (v := .ref (b + 1)) 0 rfl hu_12 (by decide) cw_0 rfl fl_X11_10 rfl dX11_plan_31 ?_
    refine zc_get C K (v := .ref (b + 12)) 18 rfl hu_9 (by decide) (cw_at 1 rfl) rfl fl_X11_275 rfl dX11_plan_34 ?_
    refine zc_get C K (v := .int (iz ((ua (τ 12) 3 (gtB (τ 13) (τ 14) (mo9 (τ 14) (τ 17) np np) np 0 0 (τ 16, τ 15, -1)).2.2) 3))) 3 rfl hu_3 (by decide) (cw_at 12 rfl) rfl fl_X11_293 rfl dX11_plan_37 ?_
    refine hv_as (((gtB (τ 13) (τ 14) (mo9 (τ 14) (τ 17) np np) np 0 0 (τ 16, τ 15, -1)).2.2)) rfl ?_
    refine hv_iconst C dX11_plan_40 ?_
    refine hv_icmp_ne C 46 dX11_plan_41 (by decide) (by omega) (by omega) (fun h41 => ?_) (fun h41 => ?_)
    · skip
      refine hv_iload_n C 1 1 dX11_plan_46 rfl rfl ?_
      refine hv_if_ne C 63 dX11_plan_47 (by decide) (by omega) (fun h47 => ?_) (fun h47 => ?_)
      · skip
        refine hv_aload_n C 0 0 dX11_plan_63 rfl rfl ?_
        refine zc_get C K (v := .ref (b + 1)) 0 rfl hu_12 (by decide) cw_0 rfl fl_X11_10 rfl dX11_plan_64 ?_
        refine zc_get C K (v := .ref (b + 12)) 18 rfl hu_9 (by decide) (cw_at 1 rfl) rfl fl_X11_275 rfl dX11_plan_67 ?_
        refine zc_get C K (v := .ref (b + 15)) 4 rfl hu_3 (by decide) (cw_at 12 rfl) rfl fl_X11_296 rfl dX11_plan_70 ?_
        refine hv_iload_n C 1 1 dX11_plan_73 rfl rfl ?_
        refine hv_iconst C dX11_plan_74 ?_
        refine hv_isub C dX11_plan_75 ?_
        refine hv_as ((((what - 1).toNat : Nat) : Int)) (by omega) ?_
        refine zc_iald C K (f := (gtB (τ 13) (τ 14) (mo9 (τ 14) (τ 17) np np) np 0 0 (τ 16, τ 15, -1)).2.1) ((what - 1).toNat) (cw_at 15 rfl) (by omega) (by omega) (by decide) dX11_plan_76 ?_
        exact zs_iret C hr hlk (by first | exact if_n (by omega) rfl | (refine if_p (by omega) ?_; rw [zA]; first | exact if_p (by omega) rfl | (refine if_n (by omega) ?_; first | exact if_p (by omega) rfl | exact if_n (by omega) rfl))) ⟨(sA (sA (sA (sA τ 12 (ua (τ 12) 3 (gtB (τ 13) (τ 14) (mo9 (τ 14) (τ 17) np np) np 0 0 (τ 16, τ 15, -1)).2.2)) 15 (gtB (τ 13) (τ 14) (mo9 (τ 14) (τ 17) np np) np 0 0 (τ 16, τ 15, -1)).2.1) 16 (X2 16)) 17 (X2 17)), by first | rfl | (funext j9; by_cases hj12 : j9 = 12; (subst hj12; first | rfl | exact ua_idq _ _ | (funext i9; simp only [sA, ua]; split <;> first | rfl | (subst_vars; rfl))); by_cases hj15 : j9 = 15; (subst hj15; first | rfl | exact ua_idq _ _ | (funext i9; simp only [sA, ua]; split <;> first | rfl | (subst_vars; rfl))); by_cases hj16 : j9 = 16; (subst hj16; first | rfl | exact ua_idq _ _ | (funext i9; simp only [sA, ua]; split <;> first | rfl | (subst_vars; rfl))); by_cases hj17 : j9 = 17; (subst hj17; first | rfl | exact ua_idq _ _ | (funext i9; simp only [sA, ua]; split <;> first | rfl | (subst_vars; rfl))); simp only [sA, if_neg hj12, if_neg hj15, if_neg hj16, if_neg hj17])⟩ dX11_plan_77
      · skip
        refine hv_aload_n C 0 0 dX11_plan_50 rfl rfl ?_
        refine zc_get C K (v := .ref (b + 1)) 0 rfl hu_12 (by decide) cw_0 rfl fl_X11_10 rfl dX11_plan_51 ?_
        refine zc_get C K (v := .ref (b + 12)) 18 rfl hu_9 (by decide) (cw_at 1 rfl) rfl fl_X11_275 rfl dX11_plan_54 ?_
        refine zc_get C K (v := .int (iz ((ua (τ 12) 3 (gtB (τ 13) (τ 14) (mo9 (τ 14) (τ 17) np np) np 0 0 (τ 16, τ 15, -1)).2.2) 3))) 3 rfl hu_3 (by decide) (cw_at 12 rfl) rfl fl_X11_293 rfl dX11_plan_57 ?_
        refine hv_as (((gtB (τ 13) (τ 14) (mo9 (τ 14) (τ 17) np np) np 0 0 (τ 16, τ 15, -1)).2.2)) rfl ?_
        refine hv_goto C 77 dX11_plan_60 (by decide) ?_
        exact zs_iret C hr hlk (by first | exact if_n (by omega) rfl | (refine if_p (by omega) ?_; rw [zA]; first | exact if_p (by omega) rfl | (refine if_n (by omega) ?_; first | exact if_p (by omega) rfl | exact if_n (by omega) rfl))) ⟨(sA (sA (sA (sA τ 12 (ua (τ 12) 3 (gtB (τ 13) (τ 14) (mo9 (τ 14) (τ 17) np np) np 0 0 (τ 16, τ 15, -1)).2.2)) 15 (gtB (τ 13) (τ 14) (mo9 (τ 14) (τ 17) np np) np 0 0 (τ 16, τ 15, -1)).2.1) 16 (X2 16)) 17 (X2 17)), by first | rfl | (funext j9; by_cases hj12 : j9 = 12; (subst hj12; first | rfl | exact ua_idq _ _ | (funext i9; simp only [sA, ua]; split <;> first | rfl | (subst_vars; rfl))); by_cases hj15 : j9 = 15; (subst hj15; first | rfl | exact ua_idq _ _ | (funext i9; simp only [sA, ua]; split <;> first | rfl | (subst_vars; rfl))); by_cases hj16 : j9 = 16; (subst hj16; first | rfl | exact ua_idq _ _ | (funext i9; simp only [sA, ua]; split <;> first | rfl | (subst_vars; rfl))); by_cases hj17 : j9 = 17; (subst hj17; first | rfl | exact ua_idq _ _ | (funext i9; simp only [sA, ua]; split <;> first | rfl | (subst_vars; rfl))); simp only [sA, if_neg hj12, if_neg hj15, if_neg hj16, if_neg hj17])⟩ dX11_plan_77
    · skip
      refine hv_iconst C dX11_plan_44 ?_
      exact zs_iret C hr hlk (by first | exact if_n (by omega) rfl | (refine if_p (by omega) ?_; rw [zA]; first | exact if_p (by omega) rfl | (refine if_n (by omega) ?_; first | exact if_p (by omega) rfl | exact if_n (by omega) rfl))) ⟨(sA (sA (sA (sA τ 12 (ua (τ 12) 3 (gtB (τ 13) (τ 14) (mo9 (τ 14) (τ 17) np np) np 0 0 (τ 16, τ 15, -1)).2.2)) 15 (gtB (τ 13) (τ 14) (mo9 (τ 14) (τ 17) np np) np 0 0 (τ 16, τ 15, -1)).2.1) 16 (X2 16)) 17 (X2 17)), by first | rfl | (funext j9; by_cases hj12 : j9 = 12; (subst hj12; first | rfl | exact ua_idq _ _ | (funext i9; simp only [sA, ua]; split <;> first | rfl | (subst_vars; rfl))); by_cases hj15 : j9 = 15; (subst hj15; first | rfl | exact ua_idq _ _ | (funext i9; simp only [sA, ua]; split <;> first | rfl | (subst_vars; rfl))); by_cases hj16 : j9 = 16; (subst hj16; first | rfl | exact ua_idq _ _ | (funext i9; simp only [sA, ua]; split <;> first | rfl | (subst_vars; rfl))); by_cases hj17 : j9 = 17; (subst hj17; first | rfl | exact ua_idq _ _ | (funext i9; simp only [sA, ua]; split <;> first | rfl | (subst_vars; rfl))); simp only [sA, if_neg hj12, if_neg hj15, if_neg hj16, if_neg hj17])⟩ dX11_plan_45
  · skip
    refine hv_iconst C dX11_plan_18 ?_
    exact zs_iret C hr hlk (by first | exact if_n (by omega) rfl | (refine if_p (by omega) ?_; rw [zA]; first | exact if_p (by omega) rfl | (refine if_n (by omega) ?_; first | exact if_p (by omega) rfl | exact if_n (by omega) rfl))) ⟨τ, by first | rfl | (funext j9; by_cases hj12 : j9 = 12; (subst hj12; first | rfl | exact ua_idq _ _ | (funext i9; simp only [sA, ua]; split <;> first | rfl | (subst_vars; rfl))); by_cases hj15 : j9 = 15; (subst hj15; first | rfl | exact ua_idq _ _ | (funext i9; simp only [sA, ua]; split <;> first | rfl | (subst_vars; rfl))); by_cases hj16 : j9 = 16; (subst hj16; first | rfl | exact ua_idq _ _ | (funext i9; simp only [sA, ua]; split <;> first | rfl | (subst_vars; rfl))); by_cases hj17 : j9 = 17; (subst hj17; first | rfl | exact ua_idq _ _ | (funext i9; simp only [sA, ua]; split <;> first | rfl | (subst_vars; rfl))); simp only [sA, if_neg hj12, if_neg hj15, if_neg hj16, if_neg hj17])⟩ dX11_plan_19
