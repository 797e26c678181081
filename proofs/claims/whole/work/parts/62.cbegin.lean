def zmx (x y : Int) : Int := if x < y then y else x
theorem zmx_l (x y : Int) : x ≤ zmx x y := by unfold zmx; split <;> omega
theorem zmx_r (x y : Int) : y ≤ zmx x y := by unfold zmx; split <;> omega
abbrev zbT : Type := (Nat → Int) × Int
def zbW (body : Nat → zbT → zbT) (bnd : Int) : Nat → zbT → zbT
  | 0, s => s
  | v + 1, s => if (zbW body bnd v s).2 ≤ bnd then zbW body bnd v s else body v (zbW body bnd v s)
abbrev zbF : Type := Int → Int → (Nat → Int) → (Nat → Int) → (Nat → Int) → zbT → zbT
def zbP (rec : zbF) (hn w : Nat) (sn dn : Int) (pb qb fr : Nat → Int) (s : zbT) : zbT :=
  if s.2 ≤ zmx sn (fr (sh9 fr (hn - 1))) + 2 then s else rec (zmx sn (fr (sh9 fr (hn - 1)))) (zmx dn (zmx sn (fr (sh9 fr (hn - 1))) + 2)) (ua pb w (pb w + 1)) qb (ua fr (sh9 fr (hn - 1)) (zmx sn (fr (sh9 fr (hn - 1))) + 2)) (ua s.1 (7 * w + (pb w).toNat) (zmx sn (fr (sh9 fr (hn - 1))) + 2), s.2)
def zbQ (rec : zbF) (Sp : Nat → Int) (hn w : Nat) (sn dn : Int) (pb qb fr : Nat → Int) (s : zbT) : zbT :=
  if zbC qb pb Sp s.1 w = -1 then s else
  if s.2 ≤ zmx (zbC qb pb Sp s.1 w) (zmx sn (fr (sh9 fr (hn - 1)))) + 3 then s else rec (zmx (zbC qb pb Sp s.1 w) (zmx sn (fr (sh9 fr (hn - 1))))) (zmx dn (zmx (zbC qb pb Sp s.1 w) (zmx sn (fr (sh9 fr (hn - 1)))) + 3)) pb (ua qb w (qb w + 1)) (ua fr (sh9 fr (hn - 1)) (zmx (zbC qb pb Sp s.1 w) (zmx sn (fr (sh9 fr (hn - 1)))) + 3)) s
def zbO (rec : zbF) (Pl Pu Sp : Nat → Int) (hn : Nat) (sn dn : Int) (pb qb fr : Nat → Int) (w : Nat) (s : zbT) : zbT :=
  if qb w < Pu w then zbQ rec Sp hn w sn dn pb qb fr (if pb w < Pl w then zbP rec hn w sn dn pb qb fr s else s) else (if pb w < Pl w then zbP rec hn w sn dn pb qb fr s else s)
/-- the search for the soonest end: what it leaves of the outs, and of the best -/
def zbB (Pl Pu Sp : Nat → Int) (hn : Nat) (bnd : Int) : Nat → zbF
  | 0, _, dn, _, _, _, s => (s.1, if dn < s.2 then dn else s.2)
  | lf + 1, sn, dn, pb, qb, fr, s => zbW (zbO (zbB Pl Pu Sp hn bnd lf) Pl Pu Sp hn sn dn pb qb fr) bnd 13 s
def zbR (pb : Nat → Int) (s t : zbT) : Prop := (∀ w k : Nat, w < 13 → k < 7 → (k : Int) < pb w → t.1 (7 * w + k) = s.1 (7 * w + k)) ∧ t.2 ≤ s.2 ∧ (0 ≤ s.2 → 0 ≤ t.2)
theorem zbR.refl (pb : Nat → Int) (s : zbT) : zbR pb s s := ⟨fun _ _ _ _ _ => rfl, Int.le_refl _, fun h => h⟩
theorem zbR.tr {pb : Nat → Int} {s t u : zbT} (h : zbR pb s t) (g : zbR pb t u) : zbR pb s u := ⟨fun w k a b c => (g.1 w k a b c).trans (h.1 w k a b c), Int.le_trans g.2.1 h.2.1, fun z => g.2.2 (h.2.2 z)⟩
theorem zbW_R {pb : Nat → Int} {body : Nat → zbT → zbT} {bnd : Int} (h : ∀ w s, w < 13 → zbR pb s (body w s)) : ∀ (v : Nat) (s : zbT), v ≤ 13 → zbR pb s (zbW body bnd v s)
  | 0, s, _ => zbR.refl pb s
  | v + 1, s, q => by
    have a := zbW_R h (bnd := bnd) v s (by omega)
    unfold zbW
    split
    · exact a
    · exact a.tr (h v _ (by omega))
def zbG (rec : zbF) : Prop := ∀ (sn dn : Int) (pb qb fr : Nat → Int) (s : zbT), 0 ≤ dn → (∀ w, w < 13 → 0 ≤ pb w) → zbR pb s (rec sn dn pb qb fr s)
theorem zbP_R {rec : zbF} (g : zbG rec) {hn w : Nat} {sn dn : Int} {pb qb fr : Nat → Int} {s : zbT} (h0 : 0 ≤ dn) (hp : ∀ w, w < 13 → 0 ≤ pb w) (hw : w < 13) (h7 : pb w < 7) : zbR pb s (zbP rec hn w sn dn pb qb fr s) := by
  unfold zbP
  split
  · exact zbR.refl pb s
  · have z := g (zmx sn (fr (sh9 fr (hn - 1)))) (zmx dn (zmx sn (fr (sh9 fr (hn - 1))) + 2)) (ua pb w (pb w + 1)) qb (ua fr (sh9 fr (hn - 1)) (zmx sn (fr (sh9 fr (hn - 1))) + 2)) (ua s.1 (7 * w + (pb w).toNat) (zmx sn (fr (sh9 fr (hn - 1))) + 2), s.2) (Int.le_trans h0 (zmx_l _ _)) (fun v q => by have := hp v q; have := hp w hw; unfold ua; split <;> omega)
    refine ⟨fun v k a b c => ?_, z.2.1, z.2.2⟩
    have p0 := hp w hw
    rw [z.1 v k a b (by unfold ua; split; · next e => subst e; omega
                        · exact c)]
    show ua s.1 _ _ _ = _
    rw [ua_ne]
    intro e
    have : v = w := by omega
    subst this
    omega
theorem zbQ_R {rec : zbF} (g : zbG rec) {Sp : Nat → Int} {hn w : Nat} {sn dn : Int} {pb qb fr : Nat → Int} {s : zbT} (h0 : 0 ≤ dn) (hp : ∀ w, w < 13 → 0 ≤ pb w) : zbR pb s (zbQ rec Sp hn w sn dn pb qb fr s) := by
  unfold zbQ
  split
  · exact zbR.refl pb s
  · split
    · exact zbR.refl pb s
    · exact g _ _ pb _ _ s (Int.le_trans h0 (zmx_l _ _)) hp
theorem zbO_R {rec : zbF} (g : zbG rec) {Pl Pu Sp : Nat → Int} {hn w : Nat} {sn dn : Int} {pb qb fr : Nat → Int} {s : zbT} (h0 : 0 ≤ dn) (hp : ∀ w, w < 13 → 0 ≤ pb w) (hPl : ∀ w, w < 13 → Pl w ≤ 7) (hw : w < 13) : zbR pb s (zbO rec Pl Pu Sp hn sn dn pb qb fr w s) := by
  have a : zbR pb s (if pb w < Pl w then zbP rec hn w sn dn pb qb fr s else s) := by
    split
    · next c => exact zbP_R g h0 hp hw (by have := hPl w hw; omega)
    · exact zbR.refl pb s
  unfold zbO
  split
  · exact a.tr (zbQ_R g h0 hp)
  · exact a
theorem zbB_R (Pl Pu Sp : Nat → Int) (hn : Nat) (bnd : Int) (hPl : ∀ w, w < 13 → Pl w ≤ 7) : ∀ lf : Nat, zbG (zbB Pl Pu Sp hn bnd lf)
  | 0 => fun sn dn pb qb fr s h0 hp => ⟨fun _ _ _ _ _ => rfl, by show (if dn < s.2 then dn else s.2) ≤ s.2; split <;> omega, fun z => by show 0 ≤ (if dn < s.2 then dn else s.2); split <;> omega⟩
  | lf + 1 => fun sn dn pb qb fr s h0 hp => zbW_R (fun w s hw => zbO_R (zbB_R Pl Pu Sp hn bnd hPl lf) h0 hp hPl hw) 13 s (Nat.le_refl _)
def zbI (lf : Nat) (sn dn : Int) (Pl Pu pb qb Sp ou fr : Nat → Int) (bt : Int) : Prop :=
  (lf ≤ 7 ∧ (0 ≤ sn ∧ sn ≤ 100 - 3 * (lf : Int)) ∧ (0 ≤ dn ∧ dn ≤ 100 - 3 * (lf : Int)) ∧ (0 ≤ bt ∧ bt ≤ 1000000000)) ∧ (∀ w, w < 13 → (0 ≤ pb w ∧ pb w ≤ 7) ∧ (0 ≤ qb w ∧ qb w ≤ 7) ∧ (0 ≤ Pl w ∧ Pl w ≤ 7) ∧ (0 ≤ Pu w ∧ Pu w ≤ 7) ∧ (-100 ≤ Sp w ∧ Sp w ≤ 100)) ∧ (∀ i, i < 3 → 0 ≤ fr i ∧ fr i ≤ 100 - 3 * (lf : Int)) ∧ (∀ w k : Nat, w < 13 → k < 7 → (k : Int) < pb w → 0 ≤ ou (7 * w + k) ∧ ou (7 * w + k) ≤ 100 - 3 * (lf : Int))
theorem zbI_R {lf : Nat} {sn dn : Int} {Pl Pu pb qb Sp ou fr : Nat → Int} {bt : Int} (h : zbI lf sn dn Pl Pu pb qb Sp ou fr bt) {t : zbT} (r : zbR pb (ou, bt) t) : zbI lf sn dn Pl Pu pb qb Sp t.1 fr t.2 := by
  have r2 : t.2 ≤ bt := r.2.1
  have r3 : 0 ≤ bt → 0 ≤ t.2 := r.2.2
  have a := h.1
  refine ⟨⟨a.1, a.2.1, a.2.2.1, ?_⟩, h.2.1, h.2.2.1, fun w k q1 q2 q3 => ?_⟩
  · have := r3 a.2.2.2.1; omega
  · rw [r.1 w k q1 q2 q3]; exact h.2.2.2 w k q1 q2 q3
theorem zbI_P {lf w hd : Nat} {sn dn st : Int} {Pl Pu pb qb Sp ou fr : Nat → Int} {bt : Int} (h : zbI (lf + 1) sn dn Pl Pu pb qb Sp ou fr bt) (hw : w < 13) (hp : pb w < Pl w) (hd3 : hd < 3) (hst : st = zmx sn (fr hd)) : zbI lf st (zmx dn (st + 2)) Pl Pu (ua pb w (pb w + 1)) qb Sp (ua ou (7 * w + (pb w).toNat) (st + 2)) (ua fr hd (st + 2)) bt := by
  obtain ⟨⟨a1, a2, a3, a4⟩, a5, a6, a7⟩ := h
  have f := a6 hd hd3
  have s1 : 0 ≤ st ∧ st ≤ 97 - 3 * (lf : Int) := by rw [hst]; unfold zmx; split <;> omega
  refine ⟨⟨by omega, by omega, by unfold zmx; split <;> omega, a4⟩, fun v q => ?_, fun i q => ?_, fun v k q1 q2 q3 => ?_⟩
  · have b := a5 v q
    refine ⟨?_, b.2⟩
    unfold ua
    split
    · next e => subst e; omega
    · exact b.1
  · have b := a6 i q
    unfold ua
    split <;> omega
  · have p := a5 w hw
    unfold ua at q3 ⊢
    split
    · omega
    · next e =>
      have b := a7 v k q1 q2 (by
        split at q3
        · next e2 => subst e2; omega
        · exact q3)
      omega
theorem zbC_r {lf : Nat} {sn dn : Int} {Pl Pu pb qb Sp ou fr : Nat → Int} {bt : Int} (h : zbI lf sn dn Pl Pu pb qb Sp ou fr bt) {w : Nat} (hw : w < 13) : -1 ≤ zbC qb pb Sp ou w ∧ zbC qb pb Sp ou w ≤ 100 - 3 * (lf : Int) := by
  have a := h.2.1 w hw
  have l := h.1
  unfold zbC
  split
  · omega
  · split
    · have := h.2.2.2 w ((qb w + 1 - Sp w).toNat - 1) hw (by omega) (by omega)
      rw [show 7 * w + ((qb w + 1 - Sp w).toNat - 1) = 7 * w + (qb w + 1 - Sp w).toNat - 1 by omega] at this
      omega
    · omega
theorem zbI_Q {lf w hd : Nat} {sn dn st wt : Int} {Pl Pu pb qb Sp ou fr : Nat → Int} {bt : Int} (h : zbI (lf + 1) sn dn Pl Pu pb qb Sp ou fr bt) (hw : w < 13) (hp : qb w < Pu w) (hd3 : hd < 3) (hwt : wt = zbC qb pb Sp ou w) (hst : st = zmx wt (zmx sn (fr hd))) : zbI lf st (zmx dn (st + 3)) Pl Pu pb (ua qb w (qb w + 1)) Sp ou (ua fr hd (st + 3)) bt := by
  have c := zbC_r h hw
  obtain ⟨⟨a1, a2, a3, a4⟩, a5, a6, a7⟩ := h
  have f := a6 hd hd3
  have s1 : 0 ≤ st ∧ st ≤ 97 - 3 * (lf : Int) := by rw [hst]; unfold zmx; split <;> split <;> omega
  refine ⟨⟨by omega, by omega, by unfold zmx; split <;> omega, a4⟩, fun v q => ?_, fun i q => ?_, fun v k q1 q2 q3 => ?_⟩
  · have b := a5 v q
    refine ⟨b.1, ?_, b.2.2⟩
    unfold ua
    split
    · next e => subst e; omega
    · exact b.2.1
  · have b := a6 i q
    unfold ua
    split <;> omega
  · have b := a7 v k q1 q2 q3
    omega
theorem zbE (τ : Nat → Nat → Int) : τ = sA (sA τ 36 (ua (τ 36) 10 (τ 36 10))) 42 (τ 42) := by
  funext j9
  by_cases h : j9 = 36
  · subst h
    show τ 36 = ua (τ 36) 10 (τ 36 10)
    funext i9
    unfold ua
    split
    · next e => rw [e]
    · rfl
  · by_cases g : j9 = 42
    · subst g; rfl
    · simp only [sA, if_neg h, if_neg g]
theorem ua_back {f : Nat → Int} {w : Nat} {x y : Int} (h : y = f w) : ua (ua f w x) w y = f := by
  rw [ua_ua]; funext q; unfold ua; split
  · next e => rw [e, h]
  · rfl
/-- the contract of 'begin' with lf things left -/
def zbK (l : Launch) (D : va_G) (ar : Nat → ClassId) (B : Nat → Prop) (b : Nat) (w0 : zcW) (n : Nat) (hn : Nat) (bnd : Int) (lf : Nat) : Prop := ∀ (τ : Nat → Nat → Int) (sn dn : Int), τ 36 9 = (hn : Int) → τ 36 11 = bnd → zbI lf sn dn (τ 37) (τ 38) (τ 39) (τ 40) (τ 41) (τ 42) (τ 43) (τ 36 10) → zt_M l D ar B b w0 n yX6_begin cX6_begin 5 none (2 * lf + 1) (60 * lf + 40) [.ref (b + 36), .int (iz ((lf : Nat) : Int)), .int (iz sn), .int (iz dn)] τ none (sA (sA τ 36 (ua (τ 36) 10 (zbB (τ 37) (τ 38) (τ 41) hn bnd lf sn dn (τ 39) (τ 40) (τ 43) (τ 42, τ 36 10)).2)) 42 (zbB (τ 37) (τ 38) (τ 41) hn bnd lf sn dn (τ 39) (τ 40) (τ 43) (τ 42, τ 36 10)).1)
theorem zbW_e {body : Nat → zbT → zbT} {bnd : Int} {s : zbT} {ou : Nat → Int} {bt : Int} {k : Nat} (h : zbW body bnd k s = (ou, bt)) : ∀ n : Nat, k ≤ n → (k = n ∨ bt ≤ bnd) → zbW body bnd n s = (ou, bt)
  | 0, g, _ => by rw [← h, show k = 0 by omega]
  | n + 1, g, z => by
    by_cases e : k = n + 1
    · rw [← e, h]
    · have a := zbW_e h n (by omega) (by omega)
      unfold zbW
      rw [a, if_pos (by show bt ≤ bnd; omega)]

theorem dX6_beginPull_0 : decode cX6_beginPull 0 = .ok (.aload_n 0, 1) := by decide +kernel
theorem dX6_beginPull_1 : decode cX6_beginPull 1 = .ok (.invokevirtual 101, 3) := by decide +kernel
theorem dX6_beginPull_4 : decode cX6_beginPull 4 = .ok (.istore 5, 2) := by decide +kernel
theorem dX6_beginPull_6 : decode cX6_beginPull 6 = .ok (.iload_n 3, 1) := by decide +kernel
theorem dX6_beginPull_7 : decode cX6_beginPull 7 = .ok (.aload_n 0, 1) := by decide +kernel
theorem dX6_beginPull_8 : decode cX6_beginPull 8 = .ok (.getfield 30, 3) := by decide +kernel
theorem dX6_beginPull_11 : decode cX6_beginPull 11 = .ok (.iload 5, 2) := by decide +kernel
theorem dX6_beginPull_13 : decode cX6_beginPull 13 = .ok (.iaload, 1) := by decide +kernel
theorem dX6_beginPull_14 : decode cX6_beginPull 14 = .ok (.invokestatic 104, 3) := by decide +kernel
theorem dX6_beginPull_17 : decode cX6_beginPull 17 = .ok (.istore 6, 2) := by decide +kernel
theorem dX6_beginPull_19 : decode cX6_beginPull 19 = .ok (.iload 6, 2) := by decide +kernel
theorem dX6_beginPull_21 : decode cX6_beginPull 21 = .ok (.iconst 2, 1) := by decide +kernel
theorem dX6_beginPull_22 : decode cX6_beginPull 22 = .ok (.iadd, 1) := by decide +kernel
theorem dX6_beginPull_23 : decode cX6_beginPull 23 = .ok (.istore 7, 2) := by decide +kernel
theorem dX6_beginPull_25 : decode cX6_beginPull 25 = .ok (.iload 7, 2) := by decide +kernel
theorem dX6_beginPull_27 : decode cX6_beginPull 27 = .ok (.aload_n 0, 1) := by decide +kernel
theorem dX6_beginPull_28 : decode cX6_beginPull 28 = .ok (.getfield 78, 3) := by decide +kernel
theorem dX6_beginPull_31 : decode cX6_beginPull 31 = .ok (.if_icmp .lt 4, 3) := by decide +kernel
theorem dX6_beginPull_34 : decode cX6_beginPull 34 = .ok (.return_, 1) := by decide +kernel
theorem dX6_beginPull_35 : decode cX6_beginPull 35 = .ok (.aload_n 0, 1) := by decide +kernel
theorem dX6_beginPull_36 : decode cX6_beginPull 36 = .ok (.getfield 30, 3) := by decide +kernel
theorem dX6_beginPull_39 : decode cX6_beginPull 39 = .ok (.iload 5, 2) := by decide +kernel
theorem dX6_beginPull_41 : decode cX6_beginPull 41 = .ok (.iaload, 1) := by decide +kernel
theorem dX6_beginPull_42 : decode cX6_beginPull 42 = .ok (.istore 8, 2) := by decide +kernel
theorem dX6_beginPull_44 : decode cX6_beginPull 44 = .ok (.aload_n 0, 1) := by decide +kernel
theorem dX6_beginPull_45 : decode cX6_beginPull 45 = .ok (.getfield 30, 3) := by decide +kernel
theorem dX6_beginPull_48 : decode cX6_beginPull 48 = .ok (.iload 5, 2) := by decide +kernel
theorem dX6_beginPull_50 : decode cX6_beginPull 50 = .ok (.iload 7, 2) := by decide +kernel
theorem dX6_beginPull_52 : decode cX6_beginPull 52 = .ok (.iastore, 1) := by decide +kernel
theorem dX6_beginPull_53 : decode cX6_beginPull 53 = .ok (.aload_n 0, 1) := by decide +kernel
theorem dX6_beginPull_54 : decode cX6_beginPull 54 = .ok (.getfield 27, 3) := by decide +kernel
theorem dX6_beginPull_57 : decode cX6_beginPull 57 = .ok (.iload_n 1, 1) := by decide +kernel
theorem dX6_beginPull_58 : decode cX6_beginPull 58 = .ok (.bipush 7, 2) := by decide +kernel
theorem dX6_beginPull_60 : decode cX6_beginPull 60 = .ok (.imul, 1) := by decide +kernel
theorem dX6_beginPull_61 : decode cX6_beginPull 61 = .ok (.aload_n 0, 1) := by decide +kernel
theorem dX6_beginPull_62 : decode cX6_beginPull 62 = .ok (.getfield 18, 3) := by decide +kernel
theorem dX6_beginPull_65 : decode cX6_beginPull 65 = .ok (.iload_n 1, 1) := by decide +kernel
theorem dX6_beginPull_66 : decode cX6_beginPull 66 = .ok (.iaload, 1) := by decide +kernel
theorem dX6_beginPull_67 : decode cX6_beginPull 67 = .ok (.iadd, 1) := by decide +kernel
theorem dX6_beginPull_68 : decode cX6_beginPull 68 = .ok (.iload 7, 2) := by decide +kernel
theorem dX6_beginPull_70 : decode cX6_beginPull 70 = .ok (.iastore, 1) := by decide +kernel
theorem dX6_beginPull_71 : decode cX6_beginPull 71 = .ok (.aload_n 0, 1) := by decide +kernel
theorem dX6_beginPull_72 : decode cX6_beginPull 72 = .ok (.getfield 18, 3) := by decide +kernel
theorem dX6_beginPull_75 : decode cX6_beginPull 75 = .ok (.iload_n 1, 1) := by decide +kernel
theorem dX6_beginPull_76 : decode cX6_beginPull 76 = .ok (.dup2, 1) := by decide +kernel
theorem dX6_beginPull_77 : decode cX6_beginPull 77 = .ok (.iaload, 1) := by decide +kernel
theorem dX6_beginPull_78 : decode cX6_beginPull 78 = .ok (.iconst 1, 1) := by decide +kernel
theorem dX6_beginPull_79 : decode cX6_beginPull 79 = .ok (.iadd, 1) := by decide +kernel
theorem dX6_beginPull_80 : decode cX6_beginPull 80 = .ok (.iastore, 1) := by decide +kernel
theorem dX6_beginPull_81 : decode cX6_beginPull 81 = .ok (.aload_n 0, 1) := by decide +kernel
theorem dX6_beginPull_82 : decode cX6_beginPull 82 = .ok (.iload_n 2, 1) := by decide +kernel
theorem dX6_beginPull_83 : decode cX6_beginPull 83 = .ok (.iconst 1, 1) := by decide +kernel
theorem dX6_beginPull_84 : decode cX6_beginPull 84 = .ok (.isub, 1) := by decide +kernel
theorem dX6_beginPull_85 : decode cX6_beginPull 85 = .ok (.iload 6, 2) := by decide +kernel
theorem dX6_beginPull_87 : decode cX6_beginPull 87 = .ok (.iload 4, 2) := by decide +kernel
theorem dX6_beginPull_89 : decode cX6_beginPull 89 = .ok (.iload 7, 2) := by decide +kernel
theorem dX6_beginPull_91 : decode cX6_beginPull 91 = .ok (.invokestatic 104, 3) := by decide +kernel
theorem dX6_beginPull_94 : decode cX6_beginPull 94 = .ok (.invokevirtual 84, 3) := by decide +kernel
theorem dX6_beginPull_97 : decode cX6_beginPull 97 = .ok (.aload_n 0, 1) := by decide +kernel
theorem dX6_beginPull_98 : decode cX6_beginPull 98 = .ok (.getfield 18, 3) := by decide +kernel
theorem dX6_beginPull_101 : decode cX6_beginPull 101 = .ok (.iload_n 1, 1) := by decide +kernel
theorem dX6_beginPull_102 : decode cX6_beginPull 102 = .ok (.dup2, 1) := by decide +kernel
theorem dX6_beginPull_103 : decode cX6_beginPull 103 = .ok (.iaload, 1) := by decide +kernel
theorem dX6_beginPull_104 : decode cX6_beginPull 104 = .ok (.iconst 1, 1) := by decide +kernel
theorem dX6_beginPull_105 : decode cX6_beginPull 105 = .ok (.isub, 1) := by decide +kernel
theorem dX6_beginPull_106 : decode cX6_beginPull 106 = .ok (.iastore, 1) := by decide +kernel
theorem dX6_beginPull_107 : decode cX6_beginPull 107 = .ok (.aload_n 0, 1) := by decide +kernel
theorem dX6_beginPull_108 : decode cX6_beginPull 108 = .ok (.getfield 30, 3) := by decide +kernel
theorem dX6_beginPull_111 : decode cX6_beginPull 111 = .ok (.iload 5, 2) := by decide +kernel
theorem dX6_beginPull_113 : decode cX6_beginPull 113 = .ok (.iload 8, 2) := by decide +kernel
theorem dX6_beginPull_115 : decode cX6_beginPull 115 = .ok (.iastore, 1) := by decide +kernel
theorem dX6_beginPull_116 : decode cX6_beginPull 116 = .ok (.return_, 1) := by decide +kernel
theorem ck_X6_101 : zcV RX6 RX6 yX6_soonestHand cX6_soonestHand 3 (some .int) 101 0 := ⟨hk_tq4 235 (by decide +kernel) (by decide +kernel), hk_tq4 232 (by decide +kernel) (by decide +kernel), hk_tq1 9 (by decide +kernel) (by decide +kernel), ⟨by decide, by decide, by decide +kernel⟩, hk_tq4 234 (by decide +kernel) (by decide +kernel), hk_s 26 (by decide +kernel) (by decide +kernel)⟩
theorem ck_X6_104 : zcS RX6 yJ9_max_7cf53 cJ9_max_7cf53 2 (some .int) 104 2 := ⟨hk_tq2 155 (by decide +kernel) (by decide +kernel), hk_tq4 236 (by decide +kernel) (by decide +kernel), hk_tq1 14 (by decide +kernel) (by decide +kernel), ⟨by decide, by decide, by decide +kernel⟩, hk_tq2 154 (by decide +kernel) (by decide +kernel)⟩
theorem fl_X6_78 : Cond.fieldLink RX6 78 "HookUps$Shift" (TX6 10).2.1 (TX6 10).2.2.1 ∈ hk_tb := hk_tq2 9 (by decide +kernel) (by decide +kernel)
theorem ck_X6_84 : zcV RX6 RX6 yX6_begin cX6_begin 5 none 84 3 := ⟨hk_tq4 226 (by decide +kernel) (by decide +kernel), hk_tq4 223 (by decide +kernel) (by decide +kernel), hk_tq1 9 (by decide +kernel) (by decide +kernel), ⟨by decide, by decide, by decide +kernel⟩, hk_tq4 225 (by decide +kernel) (by decide +kernel), hk_s 24 (by decide +kernel) (by decide +kernel)⟩
set_option maxRecDepth 100000 in
set_option maxHeartbeats 4000000 in
theorem k_X6_beginPull (l : Launch) {D : va_G} {ar : Nat → ClassId} {B : Nat → Prop} {b n : Nat} {w0 : zcW} (hn lf : Nat) (bnd : Int) (τ : Nat → Nat → Int) (w : Nat) (sn : Int) (dn : Int) (hhn : τ 36 9 = (hn : Int)) (hbd : τ 36 11 = bnd) (hn3 : 1 ≤ hn ∧ hn ≤ 3) (hw : w < 13) (hp : τ 39 w < τ 37 w) (hI : zbI (lf + 1) sn dn (τ 37) (τ 38) (τ 39) (τ 40) (τ 41) (τ 42) (τ 43) (τ 36 10)) (hB : zbK l D ar B b w0 n hn bnd lf) : zt_M l D ar B b w0 n yX6_beginPull cX6_beginPull 9 none (2 * lf + 2) (60 * lf + 71) [.ref (b + 36), .int (iz ((w : Nat) : Int)), .int (iz ((lf + 1 : Nat) : Int)), .int (iz sn), .int (iz dn)] τ none (sA (sA τ 36 (ua (τ 36) 10 (zbP (zbB (τ 37) (τ 38) (τ 41) hn bnd lf) hn w sn dn (τ 39) (τ 40) (τ 43) (τ 42, τ 36 10)).2)) 42 (zbP (zbB (τ 37) (τ 38) (τ 41) hn bnd lf) hn w sn dn (τ 39) (τ 40) (τ 43) (τ 42, τ 36 10)).1) := by
  refine zc_start (own := RX6) (by decide +kernel) rfl (Nat.le_of_ble_eq_true rfl) ?_
  intro p e s m args below meth c C K hr hlk hnam
  obtain ⟨⟨a1, a2, a3, a4⟩, a5, a6, a7⟩ := id hI
  refine hv_aload_n C 0 0 dX6_beginPull_0 rfl rfl ?_
  refine zt_callV [] [] C K (cw_at 36 rfl) rfl (k_X6_soonestHand l hn τ  hhn hn3 (fun i z => by have z2 := a6 i z; exact ⟨by omega, by omega⟩)) ck_X6_101 ⟨by dsimp only; omega, by dsimp only; omega⟩ ⟨Nat.zero_le _, Nat.zero_le _⟩ rfl (Nat.le_of_ble_eq_true rfl) dX6_beginPull_1 ?_
  refine hv_as (((sh9 (τ 43) (hn - 1) : Nat) : Int)) rfl ?_
  obtain ⟨hd, ehd⟩ : ∃ q9 : Nat, q9 = sh9 (τ 43) (hn - 1) := ⟨_, rfl⟩
  refine hv_as (((hd : Nat) : Int)) (by rw [ehd]) ?_
  have zhd : hd < 3 := by have z := sh9_le (τ 43) (hn - 1); omega
  have zfr := a6 hd zhd
  refine hv_istore C 5 [(5, .int (iz ((hd : Nat) : Int))), (0, .ref (b + 36)), (1, .int (iz ((w : Nat) : Int))), (2, .int (iz ((lf + 1 : Nat) : Int))), (3, .int (iz sn)), (4, .int (iz dn))] dX6_beginPull_4 (by decide) rfl ?_
  refine hv_iload_n C 3 4 dX6_beginPull_6 rfl rfl ?_
  refine hv_aload_n C 0 1 dX6_beginPull_7 rfl rfl ?_
  refine zc_get C K (v := .ref (b + 43)) 8 rfl hu_7 (by decide) (cw_at 36 rfl) rfl fl_X6_30 rfl dX6_beginPull_8 ?_
  refine hv_iload C 5 0 dX6_beginPull_11 rfl ?_
  refine zc_iald C K (f := (τ 43)) hd (cw_at 43 rfl) (by omega) (by omega) (by decide) dX6_beginPull_13 ?_
  refine hv_as (τ 43 hd) rfl ?_
  refine zt_callS [.int (iz sn), .int (iz (τ 43 hd))] [] C K (k_J9_max_7cf53 l  τ sn (τ 43 hd) (by omega) (by omega)) ck_X6_104 ⟨by dsimp only; omega, by dsimp only; omega⟩ ⟨Nat.zero_le _, Nat.zero_le _⟩ rfl (Nat.le_of_ble_eq_true rfl) dX6_beginPull_14 ?_
  refine hv_as ((if sn < (τ 43 hd) then (τ 43 hd) else sn)) rfl ?_
  refine hv_as ((zmx sn (τ 43 hd))) rfl ?_
  refine hv_nm (fun st est => ?_)
  have zst : 0 ≤ st ∧ st ≤ 97 - 3 * (lf : Int) := by rw [est]; unfold zmx; split <;> omega
  refine hv_istore C 6 [(6, .int (iz st)), (5, .int (iz ((hd : Nat) : Int))), (0, .ref (b + 36)), (1, .int (iz ((w : Nat) : Int))), (2, .int (iz ((lf + 1 : Nat) : Int))), (3, .int (iz sn)), (4, .int (iz dn))] dX6_beginPull_17 (by decide) rfl ?_
  refine hv_iload C 6 0 dX6_beginPull_19 rfl ?_
  refine hv_iconst C dX6_beginPull_21 ?_
  refine hv_iadd C dX6_beginPull_22 ?_
  refine hv_istore C 7 [(7, .int (iz (st + 2))), (6, .int (iz st)), (5, .int (iz ((hd : Nat) : Int))), (0, .ref (b + 36)), (1, .int (iz ((w : Nat) : Int))), (2, .int (iz ((lf + 1 : Nat) : Int))), (3, .int (iz sn)), (4, .int (iz dn))] dX6_beginPull_23 (by decide) rfl ?_
  refine hv_iload C 7 0 dX6_beginPull_25 rfl ?_
  refine hv_aload_n C 0 3 dX6_beginPull_27 rfl rfl ?_
  refine zc_get C K (v := .int (iz (τ 36 10))) 10 rfl hu_7 (by decide) (cw_at 36 rfl) rfl fl_X6_78 rfl dX6_beginPull_28 ?_
  refine hv_icmp_lt C 35 dX6_beginPull_31 (by decide) (by omega) (by omega) (fun h31 => ?_) (fun h31 => ?_)
  · skip
    have zaw := a5 w hw
    refine hv_aload_n C 0 3 dX6_beginPull_35 rfl rfl ?_
    refine zc_get C K (v := .ref (b + 43)) 8 rfl hu_7 (by decide) (cw_at 36 rfl) rfl fl_X6_30 rfl dX6_beginPull_36 ?_
    refine hv_iload C 5 2 dX6_beginPull_39 rfl ?_
    refine zc_iald C K (f := (τ 43)) hd (cw_at 43 rfl) (by omega) (by omega) (by decide) dX6_beginPull_41 ?_
    refine hv_as (τ 43 hd) rfl ?_
    refine hv_istore C 8 [(8, .int (iz (τ 43 hd))), (7, .int (iz (st + 2))), (6, .int (iz st)), (5, .int (iz ((hd : Nat) : Int))), (0, .ref (b + 36)), (1, .int (iz ((w : Nat) : Int))), (2, .int (iz ((lf + 1 : Nat) : Int))), (3, .int (iz sn)), (4, .int (iz dn))] dX6_beginPull_42 (by decide) rfl ?_
    refine hv_aload_n C 0 4 dX6_beginPull_44 rfl rfl ?_
    refine zc_get C K (v := .ref (b + 43)) 8 rfl hu_7 (by decide) (cw_at 36 rfl) rfl fl_X6_30 rfl dX6_beginPull_45 ?_
    refine hv_iload C 5 3 dX6_beginPull_48 rfl ?_
    refine hv_iload C 7 1 dX6_beginPull_50 rfl ?_
    refine zc_iast C K (f := (τ 43)) hd (cw_at 43 rfl) (cw_set 43 hd (st + 2) rfl) (by omega) (by omega) (by decide) dX6_beginPull_52 ?_
    refine zt_st (τ2 := sA τ 43 (ua (τ 43) hd (st + 2))) (by rw [u2_sA]; first | done | rfl) ?_
    refine hv_aload_n C 0 4 dX6_beginPull_53 rfl rfl ?_
    refine zc_get C K (v := .ref (b + 42)) 7 rfl hu_7 (by decide) (cw_at 36 rfl) rfl fl_X6_27 rfl dX6_beginPull_54 ?_
    refine hv_iload_n C 1 5 dX6_beginPull_57 rfl rfl ?_
    refine hv_bipush C dX6_beginPull_58 (by decide) ?_
    refine hv_imul C dX6_beginPull_60 ?_
    refine hv_aload_n C 0 4 dX6_beginPull_61 rfl rfl ?_
    refine zc_get C K (v := .ref (b + 39)) 4 rfl hu_7 (by decide) (cw_at 36 rfl) rfl fl_X6_18 rfl dX6_beginPull_62 ?_
    refine hv_iload_n C 1 5 dX6_beginPull_65 rfl rfl ?_
    refine zc_iald C K (f := (τ 39)) w (cw_at 39 rfl) (by omega) (by omega) (by decide) dX6_beginPull_66 ?_
    refine hv_as (τ 39 w) rfl ?_
    refine hv_iadd C dX6_beginPull_67 ?_
    refine hv_as (((7 * w + (τ 39 w).toNat : Nat) : Int)) (by omega) ?_
    refine hv_iload C 7 1 dX6_beginPull_68 rfl ?_
    refine zc_iast C K (f := (τ 42)) (7 * w + (τ 39 w).toNat) (cw_at 42 rfl) (cw_set 42 (7 * w + (τ 39 w).toNat) (st + 2) rfl) (by omega) (by omega) (by decide) dX6_beginPull_70 ?_
    refine zt_st (τ2 := sA (sA τ 42 (ua (τ 42) (7 * w + (τ 39 w).toNat) (st + 2))) 43 (ua (τ 43) hd (st + 2))) (by rw [u2_sA, sA_comm (j := 43) (k := 42) (by decide)]; first | done | rfl) ?_
    refine hv_aload_n C 0 4 dX6_beginPull_71 rfl rfl ?_
    refine zc_get C K (v := .ref (b + 39)) 4 rfl hu_7 (by decide) (cw_at 36 rfl) rfl fl_X6_18 rfl dX6_beginPull_72 ?_
    refine hv_iload_n C 1 5 dX6_beginPull_75 rfl rfl ?_
    refine hv_dup2 C dX6_beginPull_76 rfl rfl ?_
    refine zc_iald C K (f := (τ 39)) w (cw_at 39 rfl) (by omega) (by omega) (by decide) dX6_beginPull_77 ?_
    refine hv_as (τ 39 w) rfl ?_
    refine hv_iconst C dX6_beginPull_78 ?_
    refine hv_iadd C dX6_beginPull_79 ?_
    refine zc_iast C K (f := (τ 39)) w (cw_at 39 rfl) (cw_set 39 w ((τ 39 w) + 1) rfl) (by omega) (by omega) (by decide) dX6_beginPull_80 ?_
    refine zt_st (τ2 := sA (sA (sA τ 39 (ua (τ 39) w ((τ 39 w) + 1))) 42 (ua (τ 42) (7 * w + (τ 39 w).toNat) (st + 2))) 43 (ua (τ 43) hd (st + 2))) (by rw [u2_sA, sA_comm (j := 43) (k := 39) (by decide), sA_comm (j := 42) (k := 39) (by decide)]; first | done | rfl) ?_
    refine hv_aload_n C 0 4 dX6_beginPull_81 rfl rfl ?_
    refine hv_iload_n C 2 6 dX6_beginPull_82 rfl rfl ?_
    refine hv_iconst C dX6_beginPull_83 ?_
    refine hv_isub C dX6_beginPull_84 ?_
    refine hv_as (((lf : Nat) : Int)) (by omega) ?_
    refine hv_iload C 6 2 dX6_beginPull_85 rfl ?_
    refine hv_iload C 4 8 dX6_beginPull_87 rfl ?_
    refine hv_iload C 7 1 dX6_beginPull_89 rfl ?_
    refine zt_callS [.int (iz dn), .int (iz (st + 2))] [.int (iz st), .int (iz ((lf : Nat) : Int)), .ref (b + 36)] C K (k_J9_max_7cf53 l  (sA (sA (sA τ 39 (ua (τ 39) w ((τ 39 w) + 1))) 42 (ua (τ 42) (7 * w + (τ 39 w).toNat) (st + 2))) 43 (ua (τ 43) hd (st + 2))) dn (st + 2) (by omega) (by omega)) ck_X6_104 ⟨by dsimp only; omega, by dsimp only; omega⟩ ⟨Nat.zero_le _, Nat.zero_le _⟩ rfl (Nat.le_of_ble_eq_true rfl) dX6_beginPull_91 ?_
    refine hv_as ((if dn < (st + 2) then (st + 2) else dn)) rfl ?_
    refine hv_as ((zmx dn (st + 2))) rfl ?_
    refine zt_callV [.int (iz ((lf : Nat) : Int)), .int (iz st), .int (iz (zmx dn (st + 2)))] [] C K (cw_at 36 rfl) rfl (hB (sA (sA (sA τ 39 (ua (τ 39) w ((τ 39 w) + 1))) 42 (ua (τ 42) (7 * w + (τ 39 w).toNat) (st + 2))) 43 (ua (τ 43) hd (st + 2))) st (zmx dn (st + 2)) hhn hbd (zbI_P hI hw hp zhd est)) ck_X6_84 ⟨by dsimp only; omega, by dsimp only; omega⟩ ⟨Nat.zero_le _, Nat.zero_le _⟩ rfl (Nat.le_of_ble_eq_true rfl) dX6_beginPull_94 ?_
    refine zt_st (τ2 := sA (sA (sA (sA τ 36 (ua (τ 36) 10 ((zbB (τ 37) (τ 38) (τ 41) hn bnd lf st (zmx dn (st + 2)) (ua (τ 39) w ((τ 39 w) + 1)) (τ 40) (ua (τ 43) hd (st + 2)) ((ua (τ 42) (7 * w + (τ 39 w).toNat) (st + 2)), (τ 36 10))).2))) 39 (ua (τ 39) w ((τ 39 w) + 1))) 42 (zbB (τ 37) (τ 38) (τ 41) hn bnd lf st (zmx dn (st + 2)) (ua (τ 39) w ((τ 39 w) + 1)) (τ 40) (ua (τ 43) hd (st + 2)) ((ua (τ 42) (7 * w + (τ 39 w).toNat) (st + 2)), (τ 36 10))).1) 43 (ua (τ 43) hd (st + 2))) (by first | rfl | (funext j9; by_cases hj36 : j9 = 36; (subst hj36; first | rfl | exact ua_ua | (funext i9; simp only [sA, ua]; (repeat' split) <;> first | rfl | (exfalso; omega) | (subst_vars; rfl))); by_cases hj39 : j9 = 39; (subst hj39; first | rfl | exact ua_ua | (funext i9; simp only [sA, ua]; (repeat' split) <;> first | rfl | (exfalso; omega) | (subst_vars; rfl))); by_cases hj42 : j9 = 42; (subst hj42; first | rfl | exact ua_ua | (funext i9; simp only [sA, ua]; (repeat' split) <;> first | rfl | (exfalso; omega) | (subst_vars; rfl))); by_cases hj43 : j9 = 43; (subst hj43; first | rfl | exact ua_ua | (funext i9; simp only [sA, ua]; (repeat' split) <;> first | rfl | (exfalso; omega) | (subst_vars; rfl))); simp only [sA, if_neg hj36, if_neg hj39, if_neg hj42, if_neg hj43])) ?_
    refine hv_aload_n C 0 4 dX6_beginPull_97 rfl rfl ?_
    refine zc_get C K (v := .ref (b + 39)) 4 rfl hu_7 (by decide) (cw_at 36 rfl) rfl fl_X6_18 rfl dX6_beginPull_98 ?_
    refine hv_iload_n C 1 5 dX6_beginPull_101 rfl rfl ?_
    refine hv_dup2 C dX6_beginPull_102 rfl rfl ?_
    refine zc_iald C K (f := (ua (τ 39) w ((τ 39 w) + 1))) w (cw_at 39 rfl) (by omega) (by omega) (by decide) dX6_beginPull_103 ?_
    refine hv_iconst C dX6_beginPull_104 ?_
    refine hv_isub C dX6_beginPull_105 ?_
    refine zc_iast C K (f := (ua (τ 39) w ((τ 39 w) + 1))) w (cw_at 39 rfl) (cw_set 39 w (((ua (τ 39) w ((τ 39 w) + 1)) w) - 1) rfl) (by omega) (by omega) (by decide) dX6_beginPull_106 ?_
    refine zt_st (τ2 := sA (sA (sA (sA τ 36 (ua (τ 36) 10 ((zbB (τ 37) (τ 38) (τ 41) hn bnd lf st (zmx dn (st + 2)) (ua (τ 39) w ((τ 39 w) + 1)) (τ 40) (ua (τ 43) hd (st + 2)) ((ua (τ 42) (7 * w + (τ 39 w).toNat) (st + 2)), (τ 36 10))).2))) 39 (ua (ua (τ 39) w ((τ 39 w) + 1)) w (((ua (τ 39) w ((τ 39 w) + 1)) w) - 1))) 42 (zbB (τ 37) (τ 38) (τ 41) hn bnd lf st (zmx dn (st + 2)) (ua (τ 39) w ((τ 39 w) + 1)) (τ 40) (ua (τ 43) hd (st + 2)) ((ua (τ 42) (7 * w + (τ 39 w).toNat) (st + 2)), (τ 36 10))).1) 43 (ua (τ 43) hd (st + 2))) (by rw [u2_sA, sA_comm (j := 43) (k := 39) (by decide), sA_comm (j := 42) (k := 39) (by decide), sA_sA]; first | done | rfl) ?_
    refine hv_aload_n C 0 4 dX6_beginPull_107 rfl rfl ?_
    refine zc_get C K (v := .ref (b + 43)) 8 rfl hu_7 (by decide) (cw_at 36 rfl) rfl fl_X6_30 rfl dX6_beginPull_108 ?_
    refine hv_iload C 5 3 dX6_beginPull_111 rfl ?_
    refine hv_iload C 8 0 dX6_beginPull_113 rfl ?_
    refine zc_iast C K (f := (ua (τ 43) hd (st + 2))) hd (cw_at 43 rfl) (cw_set 43 hd (τ 43 hd) rfl) (by omega) (by omega) (by decide) dX6_beginPull_115 ?_
    refine zt_st (τ2 := sA (sA (sA (sA τ 36 (ua (τ 36) 10 ((zbB (τ 37) (τ 38) (τ 41) hn bnd lf st (zmx dn (st + 2)) (ua (τ 39) w ((τ 39 w) + 1)) (τ 40) (ua (τ 43) hd (st + 2)) ((ua (τ 42) (7 * w + (τ 39 w).toNat) (st + 2)), (τ 36 10))).2))) 39 (ua (ua (τ 39) w ((τ 39 w) + 1)) w (((ua (τ 39) w ((τ 39 w) + 1)) w) - 1))) 42 (zbB (τ 37) (τ 38) (τ 41) hn bnd lf st (zmx dn (st + 2)) (ua (τ 39) w ((τ 39 w) + 1)) (τ 40) (ua (τ 43) hd (st + 2)) ((ua (τ 42) (7 * w + (τ 39 w).toNat) (st + 2)), (τ 36 10))).1) 43 (ua (ua (τ 43) hd (st + 2)) hd (τ 43 hd))) (by rw [u2_sA, sA_sA]; first | done | rfl) ?_
    refine zt_st (τ2 := sA (sA τ 36 (ua (τ 36) 10 ((zbB (τ 37) (τ 38) (τ 41) hn bnd lf st (zmx dn (st + 2)) (ua (τ 39) w ((τ 39 w) + 1)) (τ 40) (ua (τ 43) hd (st + 2)) ((ua (τ 42) (7 * w + (τ 39 w).toNat) (st + 2)), (τ 36 10))).2))) 42 (zbB (τ 37) (τ 38) (τ 41) hn bnd lf st (zmx dn (st + 2)) (ua (τ 39) w ((τ 39 w) + 1)) (τ 40) (ua (τ 43) hd (st + 2)) ((ua (τ 42) (7 * w + (τ 39 w).toNat) (st + 2)), (τ 36 10))).1) (by rw [show (ua (ua (τ 39) w ((τ 39 w) + 1)) w (((ua (τ 39) w ((τ 39 w) + 1)) w) - 1)) = τ 39 from ua_back (by rw [ua_at]; omega), show (ua (ua (τ 43) hd (st + 2)) hd (τ 43 hd)) = τ 43 from ua_back rfl]; first | rfl | (funext j9; by_cases hj36 : j9 = 36; (subst hj36; first | rfl | exact ua_ua | (funext i9; simp only [sA, ua]; (repeat' split) <;> first | rfl | (exfalso; omega) | (subst_vars; rfl))); by_cases hj39 : j9 = 39; (subst hj39; first | rfl | exact ua_ua | (funext i9; simp only [sA, ua]; (repeat' split) <;> first | rfl | (exfalso; omega) | (subst_vars; rfl))); by_cases hj42 : j9 = 42; (subst hj42; first | rfl | exact ua_ua | (funext i9; simp only [sA, ua]; (repeat' split) <;> first | rfl | (exfalso; omega) | (subst_vars; rfl))); by_cases hj43 : j9 = 43; (subst hj43; first | rfl | exact ua_ua | (funext i9; simp only [sA, ua]; (repeat' split) <;> first | rfl | (exfalso; omega) | (subst_vars; rfl))); simp only [sA, if_neg hj36, if_neg hj39, if_neg hj42, if_neg hj43])) ?_
    have zZ : (zbP (zbB (τ 37) (τ 38) (τ 41) hn bnd lf) hn w sn dn (τ 39) (τ 40) (τ 43) (τ 42, τ 36 10)) = (zbB (τ 37) (τ 38) (τ 41) hn bnd lf st (zmx dn (st + 2)) (ua (τ 39) w (τ 39 w + 1)) (τ 40) (ua (τ 43) hd (st + 2)) (ua (τ 42) (7 * w + (τ 39 w).toNat) (st + 2), τ 36 10)) := by unfold zbP; rw [← ehd, ← est]; exact if_neg (by show ¬ τ 36 10 ≤ st + 2; omega)
    exact zt_vret C hr hlk (by rw [zZ]; first | done | rfl | exact zbE τ) dX6_beginPull_116
  · skip
    have zZ : (zbP (zbB (τ 37) (τ 38) (τ 41) hn bnd lf) hn w sn dn (τ 39) (τ 40) (τ 43) (τ 42, τ 36 10)) = (τ 42, τ 36 10) := by unfold zbP; rw [← ehd, ← est]; exact if_pos (by show τ 36 10 ≤ st + 2; omega)
    exact zt_vret C hr hlk (by rw [zZ]; first | done | rfl | exact zbE τ) dX6_beginPull_34
theorem dX6_beginPut_0 : decode cX6_beginPut 0 = .ok (.aload_n 0, 1) := by decide +kernel
theorem dX6_beginPut_1 : decode cX6_beginPut 1 = .ok (.iload_n 1, 1) := by decide +kernel
theorem dX6_beginPut_2 : decode cX6_beginPut 2 = .ok (.invokevirtual 107, 3) := by decide +kernel
theorem dX6_beginPut_5 : decode cX6_beginPut 5 = .ok (.istore 5, 2) := by decide +kernel
theorem dX6_beginPut_7 : decode cX6_beginPut 7 = .ok (.iload 5, 2) := by decide +kernel
theorem dX6_beginPut_9 : decode cX6_beginPut 9 = .ok (.iconst (-1), 1) := by decide +kernel
theorem dX6_beginPut_10 : decode cX6_beginPut 10 = .ok (.if_icmp .ne 4, 3) := by decide +kernel
theorem dX6_beginPut_13 : decode cX6_beginPut 13 = .ok (.return_, 1) := by decide +kernel
theorem dX6_beginPut_14 : decode cX6_beginPut 14 = .ok (.aload_n 0, 1) := by decide +kernel
theorem dX6_beginPut_15 : decode cX6_beginPut 15 = .ok (.invokevirtual 101, 3) := by decide +kernel
theorem dX6_beginPut_18 : decode cX6_beginPut 18 = .ok (.istore 6, 2) := by decide +kernel
theorem dX6_beginPut_20 : decode cX6_beginPut 20 = .ok (.iload 5, 2) := by decide +kernel
theorem dX6_beginPut_22 : decode cX6_beginPut 22 = .ok (.iload_n 3, 1) := by decide +kernel
theorem dX6_beginPut_23 : decode cX6_beginPut 23 = .ok (.aload_n 0, 1) := by decide +kernel
theorem dX6_beginPut_24 : decode cX6_beginPut 24 = .ok (.getfield 30, 3) := by decide +kernel
theorem dX6_beginPut_27 : decode cX6_beginPut 27 = .ok (.iload 6, 2) := by decide +kernel
theorem dX6_beginPut_29 : decode cX6_beginPut 29 = .ok (.iaload, 1) := by decide +kernel
theorem dX6_beginPut_30 : decode cX6_beginPut 30 = .ok (.invokestatic 104, 3) := by decide +kernel
theorem dX6_beginPut_33 : decode cX6_beginPut 33 = .ok (.invokestatic 104, 3) := by decide +kernel
theorem dX6_beginPut_36 : decode cX6_beginPut 36 = .ok (.istore 7, 2) := by decide +kernel
theorem dX6_beginPut_38 : decode cX6_beginPut 38 = .ok (.iload 7, 2) := by decide +kernel
theorem dX6_beginPut_40 : decode cX6_beginPut 40 = .ok (.iconst 3, 1) := by decide +kernel
theorem dX6_beginPut_41 : decode cX6_beginPut 41 = .ok (.iadd, 1) := by decide +kernel
theorem dX6_beginPut_42 : decode cX6_beginPut 42 = .ok (.istore 8, 2) := by decide +kernel
theorem dX6_beginPut_44 : decode cX6_beginPut 44 = .ok (.iload 8, 2) := by decide +kernel
theorem dX6_beginPut_46 : decode cX6_beginPut 46 = .ok (.aload_n 0, 1) := by decide +kernel
theorem dX6_beginPut_47 : decode cX6_beginPut 47 = .ok (.getfield 78, 3) := by decide +kernel
theorem dX6_beginPut_50 : decode cX6_beginPut 50 = .ok (.if_icmp .lt 4, 3) := by decide +kernel
theorem dX6_beginPut_53 : decode cX6_beginPut 53 = .ok (.return_, 1) := by decide +kernel
theorem dX6_beginPut_54 : decode cX6_beginPut 54 = .ok (.aload_n 0, 1) := by decide +kernel
theorem dX6_beginPut_55 : decode cX6_beginPut 55 = .ok (.getfield 30, 3) := by decide +kernel
theorem dX6_beginPut_58 : decode cX6_beginPut 58 = .ok (.iload 6, 2) := by decide +kernel
theorem dX6_beginPut_60 : decode cX6_beginPut 60 = .ok (.iaload, 1) := by decide +kernel
theorem dX6_beginPut_61 : decode cX6_beginPut 61 = .ok (.istore 9, 2) := by decide +kernel
theorem dX6_beginPut_63 : decode cX6_beginPut 63 = .ok (.aload_n 0, 1) := by decide +kernel
theorem dX6_beginPut_64 : decode cX6_beginPut 64 = .ok (.getfield 30, 3) := by decide +kernel
theorem dX6_beginPut_67 : decode cX6_beginPut 67 = .ok (.iload 6, 2) := by decide +kernel
theorem dX6_beginPut_69 : decode cX6_beginPut 69 = .ok (.iload 8, 2) := by decide +kernel
theorem dX6_beginPut_71 : decode cX6_beginPut 71 = .ok (.iastore, 1) := by decide +kernel
theorem dX6_beginPut_72 : decode cX6_beginPut 72 = .ok (.aload_n 0, 1) := by decide +kernel
theorem dX6_beginPut_73 : decode cX6_beginPut 73 = .ok (.getfield 21, 3) := by decide +kernel
theorem dX6_beginPut_76 : decode cX6_beginPut 76 = .ok (.iload_n 1, 1) := by decide +kernel
theorem dX6_beginPut_77 : decode cX6_beginPut 77 = .ok (.dup2, 1) := by decide +kernel
theorem dX6_beginPut_78 : decode cX6_beginPut 78 = .ok (.iaload, 1) := by decide +kernel
theorem dX6_beginPut_79 : decode cX6_beginPut 79 = .ok (.iconst 1, 1) := by decide +kernel
theorem dX6_beginPut_80 : decode cX6_beginPut 80 = .ok (.iadd, 1) := by decide +kernel
theorem dX6_beginPut_81 : decode cX6_beginPut 81 = .ok (.iastore, 1) := by decide +kernel
theorem dX6_beginPut_82 : decode cX6_beginPut 82 = .ok (.aload_n 0, 1) := by decide +kernel
theorem dX6_beginPut_83 : decode cX6_beginPut 83 = .ok (.iload_n 2, 1) := by decide +kernel
theorem dX6_beginPut_84 : decode cX6_beginPut 84 = .ok (.iconst 1, 1) := by decide +kernel
theorem dX6_beginPut_85 : decode cX6_beginPut 85 = .ok (.isub, 1) := by decide +kernel
theorem dX6_beginPut_86 : decode cX6_beginPut 86 = .ok (.iload 7, 2) := by decide +kernel
theorem dX6_beginPut_88 : decode cX6_beginPut 88 = .ok (.iload 4, 2) := by decide +kernel
theorem dX6_beginPut_90 : decode cX6_beginPut 90 = .ok (.iload 8, 2) := by decide +kernel
theorem dX6_beginPut_92 : decode cX6_beginPut 92 = .ok (.invokestatic 104, 3) := by decide +kernel
theorem dX6_beginPut_95 : decode cX6_beginPut 95 = .ok (.invokevirtual 84, 3) := by decide +kernel
theorem dX6_beginPut_98 : decode cX6_beginPut 98 = .ok (.aload_n 0, 1) := by decide +kernel
theorem dX6_beginPut_99 : decode cX6_beginPut 99 = .ok (.getfield 21, 3) := by decide +kernel
theorem dX6_beginPut_102 : decode cX6_beginPut 102 = .ok (.iload_n 1, 1) := by decide +kernel
theorem dX6_beginPut_103 : decode cX6_beginPut 103 = .ok (.dup2, 1) := by decide +kernel
theorem dX6_beginPut_104 : decode cX6_beginPut 104 = .ok (.iaload, 1) := by decide +kernel
theorem dX6_beginPut_105 : decode cX6_beginPut 105 = .ok (.iconst 1, 1) := by decide +kernel
theorem dX6_beginPut_106 : decode cX6_beginPut 106 = .ok (.isub, 1) := by decide +kernel
theorem dX6_beginPut_107 : decode cX6_beginPut 107 = .ok (.iastore, 1) := by decide +kernel
theorem dX6_beginPut_108 : decode cX6_beginPut 108 = .ok (.aload_n 0, 1) := by decide +kernel
theorem dX6_beginPut_109 : decode cX6_beginPut 109 = .ok (.getfield 30, 3) := by decide +kernel
theorem dX6_beginPut_112 : decode cX6_beginPut 112 = .ok (.iload 6, 2) := by decide +kernel
theorem dX6_beginPut_114 : decode cX6_beginPut 114 = .ok (.iload 9, 2) := by decide +kernel
theorem dX6_beginPut_116 : decode cX6_beginPut 116 = .ok (.iastore, 1) := by decide +kernel
theorem dX6_beginPut_117 : decode cX6_beginPut 117 = .ok (.return_, 1) := by decide +kernel
theorem ck_X6_107 : zcV RX6 RX6 yX6_circuitFree cX6_circuitFree 3 (some .int) 107 1 := ⟨hk_tq5 4 (by decide +kernel) (by decide +kernel), hk_tq5 1 (by decide +kernel) (by decide +kernel), hk_tq1 9 (by decide +kernel) (by decide +kernel), ⟨by decide, by decide, by decide +kernel⟩, hk_tq5 3 (by decide +kernel) (by decide +kernel), hk_s 28 (by decide +kernel) (by decide +kernel)⟩
set_option maxRecDepth 100000 in
set_option maxHeartbeats 4000000 in
theorem k_X6_beginPut (l : Launch) {D : va_G} {ar : Nat → ClassId} {B : Nat → Prop} {b n : Nat} {w0 : zcW} (hn lf : Nat) (bnd : Int) (τ : Nat → Nat → Int) (w : Nat) (sn : Int) (dn : Int) (hhn : τ 36 9 = (hn : Int)) (hbd : τ 36 11 = bnd) (hn3 : 1 ≤ hn ∧ hn ≤ 3) (hw : w < 13) (hp : τ 40 w < τ 38 w) (hI : zbI (lf + 1) sn dn (τ 37) (τ 38) (τ 39) (τ 40) (τ 41) (τ 42) (τ 43) (τ 36 10)) (hB : zbK l D ar B b w0 n hn bnd lf) : zt_M l D ar B b w0 n yX6_beginPut cX6_beginPut 10 none (2 * lf + 2) (60 * lf + 71) [.ref (b + 36), .int (iz ((w : Nat) : Int)), .int (iz ((lf + 1 : Nat) : Int)), .int (iz sn), .int (iz dn)] τ none (sA (sA τ 36 (ua (τ 36) 10 (zbQ (zbB (τ 37) (τ 38) (τ 41) hn bnd lf) (τ 41) hn w sn dn (τ 39) (τ 40) (τ 43) (τ 42, τ 36 10)).2)) 42 (zbQ (zbB (τ 37) (τ 38) (τ 41) hn bnd lf) (τ 41) hn w sn dn (τ 39) (τ 40) (τ 43) (τ 42, τ 36 10)).1) := by
  refine zc_start (own := RX6) (by decide +kernel) rfl (Nat.le_of_ble_eq_true rfl) ?_
  intro p e s m args below meth c C K hr hlk hnam
  obtain ⟨⟨a1, a2, a3, a4⟩, a5, a6, a7⟩ := id hI
  have zaw := a5 w hw
  have zcr := zbC_r hI hw
  refine hv_aload_n C 0 0 dX6_beginPut_0 rfl rfl ?_
  refine hv_iload_n C 1 1 dX6_beginPut_1 rfl rfl ?_
  refine zt_callV [.int (iz ((w : Nat) : Int))] [] C K (cw_at 36 rfl) rfl (k_X6_circuitFree l  τ w hw (by omega) (by omega) (by omega)) ck_X6_107 ⟨by dsimp only; omega, by dsimp only; omega⟩ ⟨Nat.zero_le _, Nat.zero_le _⟩ rfl (Nat.le_of_ble_eq_true rfl) dX6_beginPut_2 ?_
  refine hv_as ((zbC (τ 40) (τ 39) (τ 41) (τ 42) w)) rfl ?_
  refine hv_nm (fun wt ewt => ?_)
  refine hv_istore C 5 [(5, .int (iz wt)), (0, .ref (b + 36)), (1, .int (iz ((w : Nat) : Int))), (2, .int (iz ((lf + 1 : Nat) : Int))), (3, .int (iz sn)), (4, .int (iz dn))] dX6_beginPut_5 (by decide) rfl ?_
  refine hv_iload C 5 0 dX6_beginPut_7 rfl ?_
  refine hv_iconst C dX6_beginPut_9 ?_
  refine hv_icmp_ne C 14 dX6_beginPut_10 (by decide) (by omega) (by omega) (fun h10 => ?_) (fun h10 => ?_)
  · skip
    refine hv_aload_n C 0 1 dX6_beginPut_14 rfl rfl ?_
    refine zt_callV [] [] C K (cw_at 36 rfl) rfl (k_X6_soonestHand l hn τ  hhn hn3 (fun i z => by have z2 := a6 i z; exact ⟨by omega, by omega⟩)) ck_X6_101 ⟨by dsimp only; omega, by dsimp only; omega⟩ ⟨Nat.zero_le _, Nat.zero_le _⟩ rfl (Nat.le_of_ble_eq_true rfl) dX6_beginPut_15 ?_
    refine hv_as (((sh9 (τ 43) (hn - 1) : Nat) : Int)) rfl ?_
    obtain ⟨hd, ehd⟩ : ∃ q9 : Nat, q9 = sh9 (τ 43) (hn - 1) := ⟨_, rfl⟩
    refine hv_as (((hd : Nat) : Int)) (by rw [ehd]) ?_
    have zhd : hd < 3 := by have z := sh9_le (τ 43) (hn - 1); omega
    have zfr := a6 hd zhd
    refine hv_istore C 6 [(6, .int (iz ((hd : Nat) : Int))), (5, .int (iz wt)), (0, .ref (b + 36)), (1, .int (iz ((w : Nat) : Int))), (2, .int (iz ((lf + 1 : Nat) : Int))), (3, .int (iz sn)), (4, .int (iz dn))] dX6_beginPut_18 (by decide) rfl ?_
    refine hv_iload C 5 1 dX6_beginPut_20 rfl ?_
    refine hv_iload_n C 3 5 dX6_beginPut_22 rfl rfl ?_
    refine hv_aload_n C 0 2 dX6_beginPut_23 rfl rfl ?_
    refine zc_get C K (v := .ref (b + 43)) 8 rfl hu_7 (by decide) (cw_at 36 rfl) rfl fl_X6_30 rfl dX6_beginPut_24 ?_
    refine hv_iload C 6 0 dX6_beginPut_27 rfl ?_
    refine zc_iald C K (f := (τ 43)) hd (cw_at 43 rfl) (by omega) (by omega) (by decide) dX6_beginPut_29 ?_
    refine hv_as (τ 43 hd) rfl ?_
    refine zt_callS [.int (iz sn), .int (iz (τ 43 hd))] [.int (iz wt)] C K (k_J9_max_7cf53 l  τ sn (τ 43 hd) (by omega) (by omega)) ck_X6_104 ⟨by dsimp only; omega, by dsimp only; omega⟩ ⟨Nat.zero_le _, Nat.zero_le _⟩ rfl (Nat.le_of_ble_eq_true rfl) dX6_beginPut_30 ?_
    refine hv_as ((if sn < (τ 43 hd) then (τ 43 hd) else sn)) rfl ?_
    refine hv_as ((zmx sn (τ 43 hd))) rfl ?_
    refine hv_nm (fun sm esm => ?_)
    have zsm : 0 ≤ sm ∧ sm ≤ 97 - 3 * (lf : Int) := by rw [esm]; unfold zmx; split <;> omega
    refine zt_callS [.int (iz wt), .int (iz sm)] [] C K (k_J9_max_7cf53 l  τ wt sm (by omega) (by omega)) ck_X6_104 ⟨by dsimp only; omega, by dsimp only; omega⟩ ⟨Nat.zero_le _, Nat.zero_le _⟩ rfl (Nat.le_of_ble_eq_true rfl) dX6_beginPut_33 ?_
    refine hv_as ((if wt < sm then sm else wt)) rfl ?_
    refine hv_as ((zmx wt sm)) rfl ?_
    refine hv_nm (fun st est => ?_)
    have zst : 0 ≤ st ∧ st ≤ 97 - 3 * (lf : Int) := by rw [est]; unfold zmx; split <;> omega
    rw [esm] at est
    refine hv_istore C 7 [(7, .int (iz st)), (6, .int (iz ((hd : Nat) : Int))), (5, .int (iz wt)), (0, .ref (b + 36)), (1, .int (iz ((w : Nat) : Int))), (2, .int (iz ((lf + 1 : Nat) : Int))), (3, .int (iz sn)), (4, .int (iz dn))] dX6_beginPut_36 (by decide) rfl ?_
    refine hv_iload C 7 0 dX6_beginPut_38 rfl ?_
    refine hv_iconst C dX6_beginPut_40 ?_
    refine hv_iadd C dX6_beginPut_41 ?_
    refine hv_istore C 8 [(8, .int (iz (st + 3))), (7, .int (iz st)), (6, .int (iz ((hd : Nat) : Int))), (5, .int (iz wt)), (0, .ref (b + 36)), (1, .int (iz ((w : Nat) : Int))), (2, .int (iz ((lf + 1 : Nat) : Int))), (3, .int (iz sn)), (4, .int (iz dn))] dX6_beginPut_42 (by decide) rfl ?_
    refine hv_iload C 8 0 dX6_beginPut_44 rfl ?_
    refine hv_aload_n C 0 4 dX6_beginPut_46 rfl rfl ?_
    refine zc_get C K (v := .int (iz (τ 36 10))) 10 rfl hu_7 (by decide) (cw_at 36 rfl) rfl fl_X6_78 rfl dX6_beginPut_47 ?_
    refine hv_icmp_lt C 54 dX6_beginPut_50 (by decide) (by omega) (by omega) (fun h50 => ?_) (fun h50 => ?_)
    · skip
      refine hv_aload_n C 0 4 dX6_beginPut_54 rfl rfl ?_
      refine zc_get C K (v := .ref (b + 43)) 8 rfl hu_7 (by decide) (cw_at 36 rfl) rfl fl_X6_30 rfl dX6_beginPut_55 ?_
      refine hv_iload C 6 2 dX6_beginPut_58 rfl ?_
      refine zc_iald C K (f := (τ 43)) hd (cw_at 43 rfl) (by omega) (by omega) (by decide) dX6_beginPut_60 ?_
      refine hv_as (τ 43 hd) rfl ?_
      refine hv_istore C 9 [(9, .int (iz (τ 43 hd))), (8, .int (iz (st + 3))), (7, .int (iz st)), (6, .int (iz ((hd : Nat) : Int))), (5, .int (iz wt)), (0, .ref (b + 36)), (1, .int (iz ((w : Nat) : Int))), (2, .int (iz ((lf + 1 : Nat) : Int))), (3, .int (iz sn)), (4, .int (iz dn))] dX6_beginPut_61 (by decide) rfl ?_
      refine hv_aload_n C 0 5 dX6_beginPut_63 rfl rfl ?_
      refine zc_get C K (v := .ref (b + 43)) 8 rfl hu_7 (by decide) (cw_at 36 rfl) rfl fl_X6_30 rfl dX6_beginPut_64 ?_
      refine hv_iload C 6 3 dX6_beginPut_67 rfl ?_
      refine hv_iload C 8 1 dX6_beginPut_69 rfl ?_
      refine zc_iast C K (f := (τ 43)) hd (cw_at 43 rfl) (cw_set 43 hd (st + 3) rfl) (by omega) (by omega) (by decide) dX6_beginPut_71 ?_
      refine zt_st (τ2 := sA τ 43 (ua (τ 43) hd (st + 3))) (by rw [u2_sA]; first | done | rfl) ?_
      refine hv_aload_n C 0 5 dX6_beginPut_72 rfl rfl ?_
      refine zc_get C K (v := .ref (b + 40)) 5 rfl hu_7 (by decide) (cw_at 36 rfl) rfl fl_X6_21 rfl dX6_beginPut_73 ?_
      refine hv_iload_n C 1 6 dX6_beginPut_76 rfl rfl ?_
      refine hv_dup2 C dX6_beginPut_77 rfl rfl ?_
      refine zc_iald C K (f := (τ 40)) w (cw_at 40 rfl) (by omega) (by omega) (by decide) dX6_beginPut_78 ?_
      refine hv_as (τ 40 w) rfl ?_
      refine hv_iconst C dX6_beginPut_79 ?_
      refine hv_iadd C dX6_beginPut_80 ?_
      refine zc_iast C K (f := (τ 40)) w (cw_at 40 rfl) (cw_set 40 w ((τ 40 w) + 1) rfl) (by omega) (by omega) (by decide) dX6_beginPut_81 ?_
      refine zt_st (τ2 := sA (sA τ 40 (ua (τ 40) w ((τ 40 w) + 1))) 43 (ua (τ 43) hd (st + 3))) (by rw [u2_sA, sA_comm (j := 43) (k := 40) (by decide)]; first | done | rfl) ?_
      refine hv_aload_n C 0 5 dX6_beginPut_82 rfl rfl ?_
      refine hv_iload_n C 2 7 dX6_beginPut_83 rfl rfl ?_
      refine hv_iconst C dX6_beginPut_84 ?_
      refine hv_isub C dX6_beginPut_85 ?_
      refine hv_as (((lf : Nat) : Int)) (by omega) ?_
      refine hv_iload C 7 2 dX6_beginPut_86 rfl ?_
      refine hv_iload C 4 9 dX6_beginPut_88 rfl ?_
      refine hv_iload C 8 1 dX6_beginPut_90 rfl ?_
      refine zt_callS [.int (iz dn), .int (iz (st + 3))] [.int (iz st), .int (iz ((lf : Nat) : Int)), .ref (b + 36)] C K (k_J9_max_7cf53 l  (sA (sA τ 40 (ua (τ 40) w ((τ 40 w) + 1))) 43 (ua (τ 43) hd (st + 3))) dn (st + 3) (by omega) (by omega)) ck_X6_104 ⟨by dsimp only; omega, by dsimp only; omega⟩ ⟨Nat.zero_le _, Nat.zero_le _⟩ rfl (Nat.le_of_ble_eq_true rfl) dX6_beginPut_92 ?_
      refine hv_as ((if dn < (st + 3) then (st + 3) else dn)) rfl ?_
      refine hv_as ((zmx dn (st + 3))) rfl ?_
      refine zt_callV [.int (iz ((lf : Nat) : Int)), .int (iz st), .int (iz (zmx dn (st + 3)))] [] C K (cw_at 36 rfl) rfl (hB (sA (sA τ 40 (ua (τ 40) w ((τ 40 w) + 1))) 43 (ua (τ 43) hd (st + 3))) st (zmx dn (st + 3)) hhn hbd (zbI_Q hI hw hp zhd ewt est)) ck_X6_84 ⟨by dsimp only; omega, by dsimp only; omega⟩ ⟨Nat.zero_le _, Nat.zero_le _⟩ rfl (Nat.le_of_ble_eq_true rfl) dX6_beginPut_95 ?_
      refine zt_st (τ2 := sA (sA (sA (sA τ 36 (ua (τ 36) 10 ((zbB (τ 37) (τ 38) (τ 41) hn bnd lf st (zmx dn (st + 3)) (τ 39) (ua (τ 40) w ((τ 40 w) + 1)) (ua (τ 43) hd (st + 3)) ((τ 42), (τ 36 10))).2))) 40 (ua (τ 40) w ((τ 40 w) + 1))) 42 (zbB (τ 37) (τ 38) (τ 41) hn bnd lf st (zmx dn (st + 3)) (τ 39) (ua (τ 40) w ((τ 40 w) + 1)) (ua (τ 43) hd (st + 3)) ((τ 42), (τ 36 10))).1) 43 (ua (τ 43) hd (st + 3))) (by first | rfl | (funext j9; by_cases hj36 : j9 = 36; (subst hj36; first | rfl | exact ua_ua | (funext i9; simp only [sA, ua]; (repeat' split) <;> first | rfl | (exfalso; omega) | (subst_vars; rfl))); by_cases hj40 : j9 = 40; (subst hj40; first | rfl | exact ua_ua | (funext i9; simp only [sA, ua]; (repeat' split) <;> first | rfl | (exfalso; omega) | (subst_vars; rfl))); by_cases hj42 : j9 = 42; (subst hj42; first | rfl | exact ua_ua | (funext i9; simp only [sA, ua]; (repeat' split) <;> first | rfl | (exfalso; omega) | (subst_vars; rfl))); by_cases hj43 : j9 = 43; (subst hj43; first | rfl | exact ua_ua | (funext i9; simp only [sA, ua]; (repeat' split) <;> first | rfl | (exfalso; omega) | (subst_vars; rfl))); simp only [sA, if_neg hj36, if_neg hj40, if_neg hj42, if_neg hj43])) ?_
      refine hv_aload_n C 0 5 dX6_beginPut_98 rfl rfl ?_
      refine zc_get C K (v := .ref (b + 40)) 5 rfl hu_7 (by decide) (cw_at 36 rfl) rfl fl_X6_21 rfl dX6_beginPut_99 ?_
      refine hv_iload_n C 1 6 dX6_beginPut_102 rfl rfl ?_
      refine hv_dup2 C dX6_beginPut_103 rfl rfl ?_
      refine zc_iald C K (f := (ua (τ 40) w ((τ 40 w) + 1))) w (cw_at 40 rfl) (by omega) (by omega) (by decide) dX6_beginPut_104 ?_
      refine hv_iconst C dX6_beginPut_105 ?_
      refine hv_isub C dX6_beginPut_106 ?_
      refine zc_iast C K (f := (ua (τ 40) w ((τ 40 w) + 1))) w (cw_at 40 rfl) (cw_set 40 w (((ua (τ 40) w ((τ 40 w) + 1)) w) - 1) rfl) (by omega) (by omega) (by decide) dX6_beginPut_107 ?_
      refine zt_st (τ2 := sA (sA (sA (sA τ 36 (ua (τ 36) 10 ((zbB (τ 37) (τ 38) (τ 41) hn bnd lf st (zmx dn (st + 3)) (τ 39) (ua (τ 40) w ((τ 40 w) + 1)) (ua (τ 43) hd (st + 3)) ((τ 42), (τ 36 10))).2))) 40 (ua (ua (τ 40) w ((τ 40 w) + 1)) w (((ua (τ 40) w ((τ 40 w) + 1)) w) - 1))) 42 (zbB (τ 37) (τ 38) (τ 41) hn bnd lf st (zmx dn (st + 3)) (τ 39) (ua (τ 40) w ((τ 40 w) + 1)) (ua (τ 43) hd (st + 3)) ((τ 42), (τ 36 10))).1) 43 (ua (τ 43) hd (st + 3))) (by rw [u2_sA, sA_comm (j := 43) (k := 40) (by decide), sA_comm (j := 42) (k := 40) (by decide), sA_sA]; first | done | rfl) ?_
      refine hv_aload_n C 0 5 dX6_beginPut_108 rfl rfl ?_
      refine zc_get C K (v := .ref (b + 43)) 8 rfl hu_7 (by decide) (cw_at 36 rfl) rfl fl_X6_30 rfl dX6_beginPut_109 ?_
      refine hv_iload C 6 3 dX6_beginPut_112 rfl ?_
      refine hv_iload C 9 0 dX6_beginPut_114 rfl ?_
      refine zc_iast C K (f := (ua (τ 43) hd (st + 3))) hd (cw_at 43 rfl) (cw_set 43 hd (τ 43 hd) rfl) (by omega) (by omega) (by decide) dX6_beginPut_116 ?_
      refine zt_st (τ2 := sA (sA (sA (sA τ 36 (ua (τ 36) 10 ((zbB (τ 37) (τ 38) (τ 41) hn bnd lf st (zmx dn (st + 3)) (τ 39) (ua (τ 40) w ((τ 40 w) + 1)) (ua (τ 43) hd (st + 3)) ((τ 42), (τ 36 10))).2))) 40 (ua (ua (τ 40) w ((τ 40 w) + 1)) w (((ua (τ 40) w ((τ 40 w) + 1)) w) - 1))) 42 (zbB (τ 37) (τ 38) (τ 41) hn bnd lf st (zmx dn (st + 3)) (τ 39) (ua (τ 40) w ((τ 40 w) + 1)) (ua (τ 43) hd (st + 3)) ((τ 42), (τ 36 10))).1) 43 (ua (ua (τ 43) hd (st + 3)) hd (τ 43 hd))) (by rw [u2_sA, sA_sA]; first | done | rfl) ?_
      refine zt_st (τ2 := sA (sA τ 36 (ua (τ 36) 10 ((zbB (τ 37) (τ 38) (τ 41) hn bnd lf st (zmx dn (st + 3)) (τ 39) (ua (τ 40) w ((τ 40 w) + 1)) (ua (τ 43) hd (st + 3)) ((τ 42), (τ 36 10))).2))) 42 (zbB (τ 37) (τ 38) (τ 41) hn bnd lf st (zmx dn (st + 3)) (τ 39) (ua (τ 40) w ((τ 40 w) + 1)) (ua (τ 43) hd (st + 3)) ((τ 42), (τ 36 10))).1) (by rw [show (ua (ua (τ 40) w ((τ 40 w) + 1)) w (((ua (τ 40) w ((τ 40 w) + 1)) w) - 1)) = τ 40 from ua_back (by rw [ua_at]; omega), show (ua (ua (τ 43) hd (st + 3)) hd (τ 43 hd)) = τ 43 from ua_back rfl]; first | rfl | (funext j9; by_cases hj36 : j9 = 36; (subst hj36; first | rfl | exact ua_ua | (funext i9; simp only [sA, ua]; (repeat' split) <;> first | rfl | (exfalso; omega) | (subst_vars; rfl))); by_cases hj40 : j9 = 40; (subst hj40; first | rfl | exact ua_ua | (funext i9; simp only [sA, ua]; (repeat' split) <;> first | rfl | (exfalso; omega) | (subst_vars; rfl))); by_cases hj42 : j9 = 42; (subst hj42; first | rfl | exact ua_ua | (funext i9; simp only [sA, ua]; (repeat' split) <;> first | rfl | (exfalso; omega) | (subst_vars; rfl))); by_cases hj43 : j9 = 43; (subst hj43; first | rfl | exact ua_ua | (funext i9; simp only [sA, ua]; (repeat' split) <;> first | rfl | (exfalso; omega) | (subst_vars; rfl))); simp only [sA, if_neg hj36, if_neg hj40, if_neg hj42, if_neg hj43])) ?_
      have zZ : (zbQ (zbB (τ 37) (τ 38) (τ 41) hn bnd lf) (τ 41) hn w sn dn (τ 39) (τ 40) (τ 43) (τ 42, τ 36 10)) = (zbB (τ 37) (τ 38) (τ 41) hn bnd lf st (zmx dn (st + 3)) (τ 39) (ua (τ 40) w (τ 40 w + 1)) (ua (τ 43) hd (st + 3)) (τ 42, τ 36 10)) := by unfold zbQ; rw [← ewt, ← ehd, ← est, if_neg (by omega)]; exact if_neg (by show ¬ τ 36 10 ≤ st + 3; omega)
      exact zt_vret C hr hlk (by rw [zZ]; first | done | rfl | exact zbE τ) dX6_beginPut_117
    · skip
      have zZ : (zbQ (zbB (τ 37) (τ 38) (τ 41) hn bnd lf) (τ 41) hn w sn dn (τ 39) (τ 40) (τ 43) (τ 42, τ 36 10)) = (τ 42, τ 36 10) := by unfold zbQ; rw [← ewt, ← ehd, ← est, if_neg (by omega)]; exact if_pos (by show τ 36 10 ≤ st + 3; omega)
      exact zt_vret C hr hlk (by rw [zZ]; first | done | rfl | exact zbE τ) dX6_beginPut_53
  · skip
    have zZ : (zbQ (zbB (τ 37) (τ 38) (τ 41) hn bnd lf) (τ 41) hn w sn dn (τ 39) (τ 40) (τ 43) (τ 42, τ 36 10)) = (τ 42, τ 36 10) := by unfold zbQ; rw [← ewt]; exact if_pos (by omega)
    exact zt_vret C hr hlk (by rw [zZ]; first | done | rfl | exact zbE τ) dX6_beginPut_13
theorem dX6_begin_0 : decode cX6_begin 0 = .ok (.iload_n 1, 1) := by decide +kernel
theorem dX6_begin_1 : decode cX6_begin 1 = .ok (.ifCond .gt 16, 3) := by decide +kernel
theorem dX6_begin_4 : decode cX6_begin 4 = .ok (.aload_n 0, 1) := by decide +kernel
theorem dX6_begin_5 : decode cX6_begin 5 = .ok (.aload_n 0, 1) := by decide +kernel
theorem dX6_begin_6 : decode cX6_begin 6 = .ok (.getfield 78, 3) := by decide +kernel
theorem dX6_begin_9 : decode cX6_begin 9 = .ok (.iload_n 3, 1) := by decide +kernel
theorem dX6_begin_10 : decode cX6_begin 10 = .ok (.invokestatic 88, 3) := by decide +kernel
theorem dX6_begin_13 : decode cX6_begin 13 = .ok (.putfield 78, 3) := by decide +kernel
theorem dX6_begin_16 : decode cX6_begin 16 = .ok (.return_, 1) := by decide +kernel
theorem dX6_begin_17 : decode cX6_begin 17 = .ok (.iconst 0, 1) := by decide +kernel
theorem dX6_begin_18 : decode cX6_begin 18 = .ok (.istore 4, 2) := by decide +kernel
theorem dX6_begin_20 : decode cX6_begin 20 = .ok (.iload 4, 2) := by decide +kernel
theorem dX6_begin_22 : decode cX6_begin 22 = .ok (.bipush 12, 2) := by decide +kernel
theorem dX6_begin_24 : decode cX6_begin 24 = .ok (.if_icmp .gt 72, 3) := by decide +kernel
theorem dX6_begin_27 : decode cX6_begin 27 = .ok (.aload_n 0, 1) := by decide +kernel
theorem dX6_begin_28 : decode cX6_begin 28 = .ok (.getfield 78, 3) := by decide +kernel
theorem dX6_begin_31 : decode cX6_begin 31 = .ok (.aload_n 0, 1) := by decide +kernel
theorem dX6_begin_32 : decode cX6_begin 32 = .ok (.getfield 81, 3) := by decide +kernel
theorem dX6_begin_35 : decode cX6_begin 35 = .ok (.if_icmp .le 61, 3) := by decide +kernel
theorem dX6_begin_38 : decode cX6_begin 38 = .ok (.aload_n 0, 1) := by decide +kernel
theorem dX6_begin_39 : decode cX6_begin 39 = .ok (.getfield 18, 3) := by decide +kernel
theorem dX6_begin_42 : decode cX6_begin 42 = .ok (.iload 4, 2) := by decide +kernel
theorem dX6_begin_44 : decode cX6_begin 44 = .ok (.iaload, 1) := by decide +kernel
theorem dX6_begin_45 : decode cX6_begin 45 = .ok (.aload_n 0, 1) := by decide +kernel
theorem dX6_begin_46 : decode cX6_begin 46 = .ok (.getfield 9, 3) := by decide +kernel
theorem dX6_begin_49 : decode cX6_begin 49 = .ok (.iload 4, 2) := by decide +kernel
theorem dX6_begin_51 : decode cX6_begin 51 = .ok (.iaload, 1) := by decide +kernel
theorem dX6_begin_52 : decode cX6_begin 52 = .ok (.if_icmp .ge 12, 3) := by decide +kernel
theorem dX6_begin_55 : decode cX6_begin 55 = .ok (.aload_n 0, 1) := by decide +kernel
theorem dX6_begin_56 : decode cX6_begin 56 = .ok (.iload 4, 2) := by decide +kernel
theorem dX6_begin_58 : decode cX6_begin 58 = .ok (.iload_n 1, 1) := by decide +kernel
theorem dX6_begin_59 : decode cX6_begin 59 = .ok (.iload_n 2, 1) := by decide +kernel
theorem dX6_begin_60 : decode cX6_begin 60 = .ok (.iload_n 3, 1) := by decide +kernel
theorem dX6_begin_61 : decode cX6_begin 61 = .ok (.invokevirtual 94, 3) := by decide +kernel
theorem dX6_begin_64 : decode cX6_begin 64 = .ok (.aload_n 0, 1) := by decide +kernel
theorem dX6_begin_65 : decode cX6_begin 65 = .ok (.getfield 21, 3) := by decide +kernel
theorem dX6_begin_68 : decode cX6_begin 68 = .ok (.iload 4, 2) := by decide +kernel
theorem dX6_begin_70 : decode cX6_begin 70 = .ok (.iaload, 1) := by decide +kernel
theorem dX6_begin_71 : decode cX6_begin 71 = .ok (.aload_n 0, 1) := by decide +kernel
theorem dX6_begin_72 : decode cX6_begin 72 = .ok (.getfield 15, 3) := by decide +kernel
theorem dX6_begin_75 : decode cX6_begin 75 = .ok (.iload 4, 2) := by decide +kernel
theorem dX6_begin_77 : decode cX6_begin 77 = .ok (.iaload, 1) := by decide +kernel
theorem dX6_begin_78 : decode cX6_begin 78 = .ok (.if_icmp .ge 12, 3) := by decide +kernel
theorem dX6_begin_81 : decode cX6_begin 81 = .ok (.aload_n 0, 1) := by decide +kernel
theorem dX6_begin_82 : decode cX6_begin 82 = .ok (.iload 4, 2) := by decide +kernel
theorem dX6_begin_84 : decode cX6_begin 84 = .ok (.iload_n 1, 1) := by decide +kernel
theorem dX6_begin_85 : decode cX6_begin 85 = .ok (.iload_n 2, 1) := by decide +kernel
theorem dX6_begin_86 : decode cX6_begin 86 = .ok (.iload_n 3, 1) := by decide +kernel
theorem dX6_begin_87 : decode cX6_begin 87 = .ok (.invokevirtual 98, 3) := by decide +kernel
theorem dX6_begin_90 : decode cX6_begin 90 = .ok (.iinc 4 1, 3) := by decide +kernel
theorem dX6_begin_93 : decode cX6_begin 93 = .ok (.goto (-73), 3) := by decide +kernel
theorem dX6_begin_96 : decode cX6_begin 96 = .ok (.return_, 1) := by decide +kernel
theorem ck_X6_88 : zcS RX6 yJ9_min_7cf53 cJ9_min_7cf53 2 (some .int) 88 2 := ⟨hk_tq2 189 (by decide +kernel) (by decide +kernel), hk_tq4 227 (by decide +kernel) (by decide +kernel), hk_tq1 14 (by decide +kernel) (by decide +kernel), ⟨by decide, by decide, by decide +kernel⟩, hk_tq2 188 (by decide +kernel) (by decide +kernel)⟩
set_option maxRecDepth 100000 in
set_option maxHeartbeats 4000000 in
theorem k_X6_begin_0 (l : Launch) {D : va_G} {ar : Nat → ClassId} {B : Nat → Prop} {b n : Nat} {w0 : zcW} (hn : Nat) (bnd : Int) (τ : Nat → Nat → Int) (sn : Int) (dn : Int) (hhn : τ 36 9 = (hn : Int)) (hbd : τ 36 11 = bnd) (hI : zbI 0 sn dn (τ 37) (τ 38) (τ 39) (τ 40) (τ 41) (τ 42) (τ 43) (τ 36 10)) : zt_M l D ar B b w0 n yX6_begin cX6_begin 5 none 1 40 [.ref (b + 36), .int (iz 0), .int (iz sn), .int (iz dn)] τ none (sA τ 36 (ua (τ 36) 10 (if dn < τ 36 10 then dn else τ 36 10))) := by
  refine zc_start (own := RX6) (by decide +kernel) rfl (Nat.le_of_ble_eq_true rfl) ?_
  intro p e s m args below meth c C K hr hlk hnam
  obtain ⟨⟨a1, a2, a3, a4⟩, a5, a6, a7⟩ := id hI
  refine hv_iload_n C 1 1 dX6_begin_0 rfl rfl ?_
  refine hv_if_gt C 17 dX6_begin_1 (by decide) (by decide) (fun h => absurd h (by decide)) (fun _ => ?_)
  refine hv_aload_n C 0 0 dX6_begin_4 rfl rfl ?_
  refine hv_aload_n C 0 0 dX6_begin_5 rfl rfl ?_
  refine zc_get C K (v := .int (iz (τ 36 10))) 10 rfl hu_7 (by decide) (cw_at 36 rfl) rfl fl_X6_78 rfl dX6_begin_6 ?_
  refine hv_iload_n C 3 3 dX6_begin_9 rfl rfl ?_
  refine zt_callS [.int (iz (τ 36 10)), .int (iz dn)] [.ref (b + 36)] C K (k_J9_min_7cf53 l  τ (τ 36 10) dn (by omega) (by omega)) ck_X6_88 ⟨by dsimp only; omega, by dsimp only; omega⟩ ⟨Nat.zero_le _, Nat.zero_le _⟩ rfl (Nat.le_of_ble_eq_true rfl) dX6_begin_10 ?_
  refine hv_as ((if dn < (τ 36 10) then dn else (τ 36 10))) rfl ?_
  refine zc_put C K 10 rfl hu_7 tyX6 tyX6_ok nmX6 (by decide) (cw_at 36 rfl) (cw_set 36 10 (if dn < (τ 36 10) then dn else (τ 36 10)) rfl) fl_X6_78 rfl rfl (ty := .int) (by decide +kernel) rfl rfl (Nat.le_of_ble_eq_true rfl) dX6_begin_13 ?_
  refine zt_st (τ2 := sA τ 36 (ua (τ 36) 10 (if dn < (τ 36 10) then dn else (τ 36 10)))) (by rw [u2_sA]; first | done | rfl) ?_
  exact zt_vret C hr hlk (by rfl) dX6_begin_16
theorem fl_X6_81 : Cond.fieldLink RX6 81 "HookUps$Shift" (TX6 11).2.1 (TX6 11).2.2.1 ∈ hk_tb := hk_tq2 10 (by decide +kernel) (by decide +kernel)
theorem ck_X6_98 : zcV RX6 RX6 yX6_beginPut cX6_beginPut 10 none 98 4 := ⟨hk_tq5 0 (by decide +kernel) (by decide +kernel), hk_tq4 237 (by decide +kernel) (by decide +kernel), hk_tq1 9 (by decide +kernel) (by decide +kernel), ⟨by decide, by decide, by decide +kernel⟩, hk_tq4 239 (by decide +kernel) (by decide +kernel), hk_s 27 (by decide +kernel) (by decide +kernel)⟩
theorem ck_X6_94 : zcV RX6 RX6 yX6_beginPull cX6_beginPull 9 none 94 4 := ⟨hk_tq4 231 (by decide +kernel) (by decide +kernel), hk_tq4 228 (by decide +kernel) (by decide +kernel), hk_tq1 9 (by decide +kernel) (by decide +kernel), ⟨by decide, by decide, by decide +kernel⟩, hk_tq4 230 (by decide +kernel) (by decide +kernel), hk_s 25 (by decide +kernel) (by decide +kernel)⟩
set_option maxRecDepth 100000 in
set_option maxHeartbeats 4000000 in
theorem k_X6_begin_S (l : Launch) {D : va_G} {ar : Nat → ClassId} {B : Nat → Prop} {b n : Nat} {w0 : zcW} (hn lf : Nat) (bnd : Int) (τ : Nat → Nat → Int) (sn : Int) (dn : Int) (hhn : τ 36 9 = (hn : Int)) (hbd : τ 36 11 = bnd) (hn3 : 1 ≤ hn ∧ hn ≤ 3) (hI : zbI (lf + 1) sn dn (τ 37) (τ 38) (τ 39) (τ 40) (τ 41) (τ 42) (τ 43) (τ 36 10)) (hB : zbK l D ar B b w0 n hn bnd lf) (hbr : inI bnd) : zt_M l D ar B b w0 n yX6_begin cX6_begin 5 none (2 * lf + 3) (60 * lf + 100) [.ref (b + 36), .int (iz ((lf + 1 : Nat) : Int)), .int (iz sn), .int (iz dn)] τ none (sA (sA τ 36 (ua (τ 36) 10 (zbW (zbO (zbB (τ 37) (τ 38) (τ 41) hn bnd lf) (τ 37) (τ 38) (τ 41) hn sn dn (τ 39) (τ 40) (τ 43)) bnd 13 (τ 42, τ 36 10)).2)) 42 (zbW (zbO (zbB (τ 37) (τ 38) (τ 41) hn bnd lf) (τ 37) (τ 38) (τ 41) hn sn dn (τ 39) (τ 40) (τ 43)) bnd 13 (τ 42, τ 36 10)).1) := by
  refine zc_start (own := RX6) (by decide +kernel) rfl (Nat.le_of_ble_eq_true rfl) ?_
  intro p e s m args below meth c C K hr hlk hnam
  obtain ⟨⟨a1, a2, a3, a4⟩, a5, a6, a7⟩ := id hI
  have zPl : ∀ w, w < 13 → τ 37 w ≤ 7 := fun w q => (a5 w q).2.2.1.2
  have zG := zbB_R (τ 37) (τ 38) (τ 41) hn bnd zPl lf
  have zp0 : ∀ w, w < 13 → 0 ≤ τ 39 w := fun w q => (a5 w q).1.1
  refine hv_iload_n C 1 1 dX6_begin_0 rfl rfl ?_
  refine hv_if_gt C 17 dX6_begin_1 (by decide) (by omega) (fun h1 => ?_) (fun h1 => ?_)
  · skip
    refine hv_iconst C dX6_begin_17 ?_
    refine hv_istore C 4 [(4, .int (iz 0)), (0, .ref (b + 36)), (1, .int (iz ((lf + 1 : Nat) : Int))), (2, .int (iz sn)), (3, .int (iz dn))] dX6_begin_18 (by decide) rfl ?_
    have L20 : ∀ (f : Nat) (w : Nat) (bt : Int) (ou : Nat → Int), 13 - w < f → (w ≤ 13) → ((zbW (zbO (zbB (τ 37) (τ 38) (τ 41) hn bnd lf) (τ 37) (τ 38) (τ 41) hn sn dn (τ 39) (τ 40) (τ 43)) bnd w (τ 42, τ 36 10)) = (ou, bt)) → (zbI (lf + 1) sn dn (τ 37) (τ 38) (τ 39) (τ 40) (τ 41) ou (τ 43) bt) → hvV p l e { frames := (2 * lf + 3), cells := 0, slots := 0, locals := (60 * lf + 100) } s m args below meth c 5 B 0 0 (MQ below (zc_Q D B (fun r' w' n' => r' = none ∧ w' = cw ar b (sA (sA τ 36 (ua (τ 36) 10 (zbW (zbO (zbB (τ 37) (τ 38) (τ 41) hn bnd lf) (τ 37) (τ 38) (τ 41) hn sn dn (τ 39) (τ 40) (τ 43)) bnd 13 (τ 42, τ 36 10)).2)) 42 (zbW (zbO (zbB (τ 37) (τ 38) (τ 41) hn bnd lf) (τ 37) (τ 38) (τ 41) hn sn dn (τ 39) (τ 40) (τ 43)) bnd 13 (τ 42, τ 36 10)).1) w0 ∧ n' = n)) args s 0 0 B) (zc_I D B (cw ar b (sA (sA τ 36 (ua (τ 36) 10 bt)) 42 ou) w0) n s.heap) 20 [(0, .ref (b + 36)), (1, .int (iz ((lf + 1 : Nat) : Int))), (2, .int (iz sn)), (3, .int (iz dn)), (4, .int (iz ((w : Nat) : Int)))] [] := by
      intro f
      induction f with
      | zero => intro _ _ _ hm; exact absurd hm (Nat.not_lt_zero _)
      | succ f ih20 =>
        intro w bt ou hm20 hw hZ hJ
        refine hv_iload C 4 4 dX6_begin_20 rfl ?_
        refine hv_bipush C dX6_begin_22 (by decide) ?_
        refine hv_icmp_gt C 96 dX6_begin_24 (by decide) (by omega) (by omega) (fun h24 => ?_) (fun h24 => ?_)
        · skip
          have zf1 : (zbW (zbO (zbB (τ 37) (τ 38) (τ 41) hn bnd lf) (τ 37) (τ 38) (τ 41) hn sn dn (τ 39) (τ 40) (τ 43)) bnd 13 (τ 42, τ 36 10)) = (ou, bt) := zbW_e hZ 13 (by omega) (by omega)
          exact zt_vret C hr hlk (by rw [zf1]) dX6_begin_96
        · skip
          have zbt := hJ.1.2.2.2
          refine hv_aload_n C 0 0 dX6_begin_27 rfl rfl ?_
          refine zc_get C K (v := .int (iz bt)) 10 rfl hu_7 (by decide) (cw_at 36 rfl) rfl fl_X6_78 rfl dX6_begin_28 ?_
          refine hv_aload_n C 0 0 dX6_begin_31 rfl rfl ?_
          refine zc_get C K (v := .int (iz (τ 36 11))) 11 rfl hu_7 (by decide) (cw_at 36 rfl) rfl fl_X6_81 rfl dX6_begin_32 ?_
          refine hv_icmp_le C 96 dX6_begin_35 (by decide) (by omega) (by omega) (fun h35 => ?_) (fun h35 => ?_)
          · skip
            have zf1 : (zbW (zbO (zbB (τ 37) (τ 38) (τ 41) hn bnd lf) (τ 37) (τ 38) (τ 41) hn sn dn (τ 39) (τ 40) (τ 43)) bnd 13 (τ 42, τ 36 10)) = (ou, bt) := zbW_e hZ 13 (by omega) (by omega)
            exact zt_vret C hr hlk (by rw [zf1]) dX6_begin_96
          · skip
            have zaw := a5 w (by omega)
            refine hv_aload_n C 0 0 dX6_begin_38 rfl rfl ?_
            refine zc_get C K (v := .ref (b + 39)) 4 rfl hu_7 (by decide) (cw_at 36 rfl) rfl fl_X6_18 rfl dX6_begin_39 ?_
            refine hv_iload C 4 4 dX6_begin_42 rfl ?_
            refine zc_iald C K (f := (τ 39)) w (cw_at 39 rfl) (by omega) (by omega) (by decide) dX6_begin_44 ?_
            refine hv_as (τ 39 w) rfl ?_
            refine hv_aload_n C 0 0 dX6_begin_45 rfl rfl ?_
            refine zc_get C K (v := .ref (b + 37)) 2 rfl hu_7 (by decide) (cw_at 36 rfl) rfl fl_X6_9 rfl dX6_begin_46 ?_
            refine hv_iload C 4 4 dX6_begin_49 rfl ?_
            refine zc_iald C K (f := (τ 37)) w (cw_at 37 rfl) (by omega) (by omega) (by decide) dX6_begin_51 ?_
            refine hv_as (τ 37 w) rfl ?_
            refine hv_icmp_ge C 64 dX6_begin_52 (by decide) (by omega) (by omega) (fun h52 => ?_) (fun h52 => ?_)
            · skip
              have zs1 : (if τ 39 w < τ 37 w then zbP (zbB (τ 37) (τ 38) (τ 41) hn bnd lf) hn w sn dn (τ 39) (τ 40) (τ 43) (ou, bt) else (ou, bt)) = (ou, bt) := if_neg (by omega)
              have hJ1 := hJ
              refine hv_aload_n C 0 0 dX6_begin_64 rfl rfl ?_
              refine zc_get C K (v := .ref (b + 40)) 5 rfl hu_7 (by decide) (cw_at 36 rfl) rfl fl_X6_21 rfl dX6_begin_65 ?_
              refine hv_iload C 4 4 dX6_begin_68 rfl ?_
              refine zc_iald C K (f := (τ 40)) w (cw_at 40 rfl) (by omega) (by omega) (by decide) dX6_begin_70 ?_
              refine hv_as (τ 40 w) rfl ?_
              refine hv_aload_n C 0 0 dX6_begin_71 rfl rfl ?_
              refine zc_get C K (v := .ref (b + 38)) 3 rfl hu_7 (by decide) (cw_at 36 rfl) rfl fl_X6_15 rfl dX6_begin_72 ?_
              refine hv_iload C 4 4 dX6_begin_75 rfl ?_
              refine zc_iald C K (f := (τ 38)) w (cw_at 38 rfl) (by omega) (by omega) (by decide) dX6_begin_77 ?_
              refine hv_as (τ 38 w) rfl ?_
              refine hv_icmp_ge C 90 dX6_begin_78 (by decide) (by omega) (by omega) (fun h78 => ?_) (fun h78 => ?_)
              · skip
                have zo1 : zbO (zbB (τ 37) (τ 38) (τ 41) hn bnd lf) (τ 37) (τ 38) (τ 41) hn sn dn (τ 39) (τ 40) (τ 43) w (ou, bt) = (ou, bt) := by unfold zbO; rw [zs1]; first | (rw [if_pos (by omega)]; done) | (rw [if_neg (by omega)]; done)
                have zv1 : (zbW (zbO (zbB (τ 37) (τ 38) (τ 41) hn bnd lf) (τ 37) (τ 38) (τ 41) hn sn dn (τ 39) (τ 40) (τ 43)) bnd (w + 1) (τ 42, τ 36 10)) = (ou, bt) := by unfold zbW; rw [hZ, if_neg (by show ¬ bt ≤ bnd; omega)]; exact zo1
                have hJ2 := zbI_R hJ (zbO_R zG (hn := hn) (w := w) (sn := sn) (Pl := τ 37) (Pu := τ 38) (Sp := τ 41) (qb := τ 40) (fr := τ 43) (s := (ou, bt)) a3.1 zp0 zPl (by omega))
                rw [zo1] at hJ2
                refine hv_iinc C 4 4 [(4, .int (iz (((w : Nat) : Int) + 1))), (0, .ref (b + 36)), (1, .int (iz ((lf + 1 : Nat) : Int))), (2, .int (iz sn)), (3, .int (iz dn))] dX6_begin_90 rfl (by decide) rfl ?_
                refine hv_goto C 20 dX6_begin_93 (by decide) ?_
                refine hv_loc [1, 2, 3, 4, 0] [(0, .ref (b + 36)), (1, .int (iz ((lf + 1 : Nat) : Int))), (2, .int (iz sn)), (3, .int (iz dn)), (4, .int (iz (((w : Nat) : Int) + 1)))] rfl ?_
                exact ih20 (w + 1) bt ou (by omega) (by omega) zv1 hJ2
              · skip
                have zhp : τ 40 w < τ 38 w := by omega
                refine hv_aload_n C 0 0 dX6_begin_81 rfl rfl ?_
                refine hv_iload C 4 4 dX6_begin_82 rfl ?_
                refine hv_iload_n C 1 1 dX6_begin_84 rfl rfl ?_
                refine hv_iload_n C 2 2 dX6_begin_85 rfl rfl ?_
                refine hv_iload_n C 3 3 dX6_begin_86 rfl rfl ?_
                refine zt_callV [.int (iz ((w : Nat) : Int)), .int (iz ((lf + 1 : Nat) : Int)), .int (iz sn), .int (iz dn)] [] C K (cw_at 36 rfl) rfl (k_X6_beginPut l hn lf bnd (sA (sA τ 36 (ua (τ 36) 10 bt)) 42 ou) w sn dn hhn hbd hn3 (by omega) zhp hJ1 hB) ck_X6_98 ⟨by dsimp only; omega, by dsimp only; omega⟩ ⟨Nat.zero_le _, Nat.zero_le _⟩ rfl (Nat.le_of_ble_eq_true rfl) dX6_begin_87 ?_
                refine zt_st (τ2 := sA (sA τ 36 (ua (τ 36) 10 ((zbQ (zbB (τ 37) (τ 38) (τ 41) hn bnd lf) (τ 41) hn w sn dn (τ 39) (τ 40) (τ 43) (ou, bt)).2))) 42 (zbQ (zbB (τ 37) (τ 38) (τ 41) hn bnd lf) (τ 41) hn w sn dn (τ 39) (τ 40) (τ 43) (ou, bt)).1) (by first | rfl | (funext j9; by_cases hj36 : j9 = 36; (subst hj36; first | rfl | exact ua_ua | (funext i9; simp only [sA, ua]; (repeat' split) <;> first | rfl | (exfalso; omega) | (subst_vars; rfl))); by_cases hj42 : j9 = 42; (subst hj42; first | rfl | exact ua_ua | (funext i9; simp only [sA, ua]; (repeat' split) <;> first | rfl | (exfalso; omega) | (subst_vars; rfl))); simp only [sA, if_neg hj36, if_neg hj42])) ?_
                have zo1 : zbO (zbB (τ 37) (τ 38) (τ 41) hn bnd lf) (τ 37) (τ 38) (τ 41) hn sn dn (τ 39) (τ 40) (τ 43) w (ou, bt) = ((zbQ (zbB (τ 37) (τ 38) (τ 41) hn bnd lf) (τ 41) hn w sn dn (τ 39) (τ 40) (τ 43) (ou, bt)).1, ((zbQ (zbB (τ 37) (τ 38) (τ 41) hn bnd lf) (τ 41) hn w sn dn (τ 39) (τ 40) (τ 43) (ou, bt)).2)) := by unfold zbO; rw [zs1]; first | (rw [if_pos (by omega)]; done) | (rw [if_neg (by omega)]; done)
                have zv1 : (zbW (zbO (zbB (τ 37) (τ 38) (τ 41) hn bnd lf) (τ 37) (τ 38) (τ 41) hn sn dn (τ 39) (τ 40) (τ 43)) bnd (w + 1) (τ 42, τ 36 10)) = ((zbQ (zbB (τ 37) (τ 38) (τ 41) hn bnd lf) (τ 41) hn w sn dn (τ 39) (τ 40) (τ 43) (ou, bt)).1, ((zbQ (zbB (τ 37) (τ 38) (τ 41) hn bnd lf) (τ 41) hn w sn dn (τ 39) (τ 40) (τ 43) (ou, bt)).2)) := by unfold zbW; rw [hZ, if_neg (by show ¬ bt ≤ bnd; omega)]; exact zo1
                have hJ2 := zbI_R hJ (zbO_R zG (hn := hn) (w := w) (sn := sn) (Pl := τ 37) (Pu := τ 38) (Sp := τ 41) (qb := τ 40) (fr := τ 43) (s := (ou, bt)) a3.1 zp0 zPl (by omega))
                rw [zo1] at hJ2
                refine hv_iinc C 4 4 [(4, .int (iz (((w : Nat) : Int) + 1))), (0, .ref (b + 36)), (1, .int (iz ((lf + 1 : Nat) : Int))), (2, .int (iz sn)), (3, .int (iz dn))] dX6_begin_90 rfl (by decide) rfl ?_
                refine hv_goto C 20 dX6_begin_93 (by decide) ?_
                refine hv_loc [1, 2, 3, 4, 0] [(0, .ref (b + 36)), (1, .int (iz ((lf + 1 : Nat) : Int))), (2, .int (iz sn)), (3, .int (iz dn)), (4, .int (iz (((w : Nat) : Int) + 1)))] rfl ?_
                exact ih20 (w + 1) ((zbQ (zbB (τ 37) (τ 38) (τ 41) hn bnd lf) (τ 41) hn w sn dn (τ 39) (τ 40) (τ 43) (ou, bt)).2) (zbQ (zbB (τ 37) (τ 38) (τ 41) hn bnd lf) (τ 41) hn w sn dn (τ 39) (τ 40) (τ 43) (ou, bt)).1 (by omega) (by omega) zv1 hJ2
            · skip
              have zhq : τ 39 w < τ 37 w := by omega
              refine hv_aload_n C 0 0 dX6_begin_55 rfl rfl ?_
              refine hv_iload C 4 4 dX6_begin_56 rfl ?_
              refine hv_iload_n C 1 1 dX6_begin_58 rfl rfl ?_
              refine hv_iload_n C 2 2 dX6_begin_59 rfl rfl ?_
              refine hv_iload_n C 3 3 dX6_begin_60 rfl rfl ?_
              refine zt_callV [.int (iz ((w : Nat) : Int)), .int (iz ((lf + 1 : Nat) : Int)), .int (iz sn), .int (iz dn)] [] C K (cw_at 36 rfl) rfl (k_X6_beginPull l hn lf bnd (sA (sA τ 36 (ua (τ 36) 10 bt)) 42 ou) w sn dn hhn hbd hn3 (by omega) zhq hJ hB) ck_X6_94 ⟨by dsimp only; omega, by dsimp only; omega⟩ ⟨Nat.zero_le _, Nat.zero_le _⟩ rfl (Nat.le_of_ble_eq_true rfl) dX6_begin_61 ?_
              refine zt_st (τ2 := sA (sA τ 36 (ua (τ 36) 10 ((zbP (zbB (τ 37) (τ 38) (τ 41) hn bnd lf) hn w sn dn (τ 39) (τ 40) (τ 43) (ou, bt)).2))) 42 (zbP (zbB (τ 37) (τ 38) (τ 41) hn bnd lf) hn w sn dn (τ 39) (τ 40) (τ 43) (ou, bt)).1) (by first | rfl | (funext j9; by_cases hj36 : j9 = 36; (subst hj36; first | rfl | exact ua_ua | (funext i9; simp only [sA, ua]; (repeat' split) <;> first | rfl | (exfalso; omega) | (subst_vars; rfl))); by_cases hj42 : j9 = 42; (subst hj42; first | rfl | exact ua_ua | (funext i9; simp only [sA, ua]; (repeat' split) <;> first | rfl | (exfalso; omega) | (subst_vars; rfl))); simp only [sA, if_neg hj36, if_neg hj42])) ?_
              have zs1 : (if τ 39 w < τ 37 w then zbP (zbB (τ 37) (τ 38) (τ 41) hn bnd lf) hn w sn dn (τ 39) (τ 40) (τ 43) (ou, bt) else (ou, bt)) = zbP (zbB (τ 37) (τ 38) (τ 41) hn bnd lf) hn w sn dn (τ 39) (τ 40) (τ 43) (ou, bt) := if_pos (by omega)
              have hJ1 := zbI_R hJ (zbP_R zG (hn := hn) (w := w) (sn := sn) (qb := τ 40) (fr := τ 43) (s := (ou, bt)) a3.1 zp0 (by omega) (by have z9 := zPl w (by omega); omega))
              refine hv_aload_n C 0 0 dX6_begin_64 rfl rfl ?_
              refine zc_get C K (v := .ref (b + 40)) 5 rfl hu_7 (by decide) (cw_at 36 rfl) rfl fl_X6_21 rfl dX6_begin_65 ?_
              refine hv_iload C 4 4 dX6_begin_68 rfl ?_
              refine zc_iald C K (f := (τ 40)) w (cw_at 40 rfl) (by omega) (by omega) (by decide) dX6_begin_70 ?_
              refine hv_as (τ 40 w) rfl ?_
              refine hv_aload_n C 0 0 dX6_begin_71 rfl rfl ?_
              refine zc_get C K (v := .ref (b + 38)) 3 rfl hu_7 (by decide) (cw_at 36 rfl) rfl fl_X6_15 rfl dX6_begin_72 ?_
              refine hv_iload C 4 4 dX6_begin_75 rfl ?_
              refine zc_iald C K (f := (τ 38)) w (cw_at 38 rfl) (by omega) (by omega) (by decide) dX6_begin_77 ?_
              refine hv_as (τ 38 w) rfl ?_
              refine hv_icmp_ge C 90 dX6_begin_78 (by decide) (by omega) (by omega) (fun h78 => ?_) (fun h78 => ?_)
              · skip
                have zo1 : zbO (zbB (τ 37) (τ 38) (τ 41) hn bnd lf) (τ 37) (τ 38) (τ 41) hn sn dn (τ 39) (τ 40) (τ 43) w (ou, bt) = ((zbP (zbB (τ 37) (τ 38) (τ 41) hn bnd lf) hn w sn dn (τ 39) (τ 40) (τ 43) (ou, bt)).1, ((zbP (zbB (τ 37) (τ 38) (τ 41) hn bnd lf) hn w sn dn (τ 39) (τ 40) (τ 43) (ou, bt)).2)) := by unfold zbO; rw [zs1]; first | (rw [if_pos (by omega)]; done) | (rw [if_neg (by omega)]; done)
                have zv1 : (zbW (zbO (zbB (τ 37) (τ 38) (τ 41) hn bnd lf) (τ 37) (τ 38) (τ 41) hn sn dn (τ 39) (τ 40) (τ 43)) bnd (w + 1) (τ 42, τ 36 10)) = ((zbP (zbB (τ 37) (τ 38) (τ 41) hn bnd lf) hn w sn dn (τ 39) (τ 40) (τ 43) (ou, bt)).1, ((zbP (zbB (τ 37) (τ 38) (τ 41) hn bnd lf) hn w sn dn (τ 39) (τ 40) (τ 43) (ou, bt)).2)) := by unfold zbW; rw [hZ, if_neg (by show ¬ bt ≤ bnd; omega)]; exact zo1
                have hJ2 := zbI_R hJ (zbO_R zG (hn := hn) (w := w) (sn := sn) (Pl := τ 37) (Pu := τ 38) (Sp := τ 41) (qb := τ 40) (fr := τ 43) (s := (ou, bt)) a3.1 zp0 zPl (by omega))
                rw [zo1] at hJ2
                refine hv_iinc C 4 4 [(4, .int (iz (((w : Nat) : Int) + 1))), (0, .ref (b + 36)), (1, .int (iz ((lf + 1 : Nat) : Int))), (2, .int (iz sn)), (3, .int (iz dn))] dX6_begin_90 rfl (by decide) rfl ?_
                refine hv_goto C 20 dX6_begin_93 (by decide) ?_
                refine hv_loc [1, 2, 3, 4, 0] [(0, .ref (b + 36)), (1, .int (iz ((lf + 1 : Nat) : Int))), (2, .int (iz sn)), (3, .int (iz dn)), (4, .int (iz (((w : Nat) : Int) + 1)))] rfl ?_
                exact ih20 (w + 1) ((zbP (zbB (τ 37) (τ 38) (τ 41) hn bnd lf) hn w sn dn (τ 39) (τ 40) (τ 43) (ou, bt)).2) (zbP (zbB (τ 37) (τ 38) (τ 41) hn bnd lf) hn w sn dn (τ 39) (τ 40) (τ 43) (ou, bt)).1 (by omega) (by omega) zv1 hJ2
              · skip
                have zhp : τ 40 w < τ 38 w := by omega
                refine hv_aload_n C 0 0 dX6_begin_81 rfl rfl ?_
                refine hv_iload C 4 4 dX6_begin_82 rfl ?_
                refine hv_iload_n C 1 1 dX6_begin_84 rfl rfl ?_
                refine hv_iload_n C 2 2 dX6_begin_85 rfl rfl ?_
                refine hv_iload_n C 3 3 dX6_begin_86 rfl rfl ?_
                refine zt_callV [.int (iz ((w : Nat) : Int)), .int (iz ((lf + 1 : Nat) : Int)), .int (iz sn), .int (iz dn)] [] C K (cw_at 36 rfl) rfl (k_X6_beginPut l hn lf bnd (sA (sA τ 36 (ua (τ 36) 10 ((zbP (zbB (τ 37) (τ 38) (τ 41) hn bnd lf) hn w sn dn (τ 39) (τ 40) (τ 43) (ou, bt)).2))) 42 (zbP (zbB (τ 37) (τ 38) (τ 41) hn bnd lf) hn w sn dn (τ 39) (τ 40) (τ 43) (ou, bt)).1) w sn dn hhn hbd hn3 (by omega) zhp hJ1 hB) ck_X6_98 ⟨by dsimp only; omega, by dsimp only; omega⟩ ⟨Nat.zero_le _, Nat.zero_le _⟩ rfl (Nat.le_of_ble_eq_true rfl) dX6_begin_87 ?_
                refine zt_st (τ2 := sA (sA τ 36 (ua (τ 36) 10 ((zbQ (zbB (τ 37) (τ 38) (τ 41) hn bnd lf) (τ 41) hn w sn dn (τ 39) (τ 40) (τ 43) ((zbP (zbB (τ 37) (τ 38) (τ 41) hn bnd lf) hn w sn dn (τ 39) (τ 40) (τ 43) (ou, bt)).1, ((zbP (zbB (τ 37) (τ 38) (τ 41) hn bnd lf) hn w sn dn (τ 39) (τ 40) (τ 43) (ou, bt)).2))).2))) 42 (zbQ (zbB (τ 37) (τ 38) (τ 41) hn bnd lf) (τ 41) hn w sn dn (τ 39) (τ 40) (τ 43) ((zbP (zbB (τ 37) (τ 38) (τ 41) hn bnd lf) hn w sn dn (τ 39) (τ 40) (τ 43) (ou, bt)).1, ((zbP (zbB (τ 37) (τ 38) (τ 41) hn bnd lf) hn w sn dn (τ 39) (τ 40) (τ 43) (ou, bt)).2))).1) (by first | rfl | (funext j9; by_cases hj36 : j9 = 36; (subst hj36; first | rfl | exact ua_ua | (funext i9; simp only [sA, ua]; (repeat' split) <;> first | rfl | (exfalso; omega) | (subst_vars; rfl))); by_cases hj42 : j9 = 42; (subst hj42; first | rfl | exact ua_ua | (funext i9; simp only [sA, ua]; (repeat' split) <;> first | rfl | (exfalso; omega) | (subst_vars; rfl))); simp only [sA, if_neg hj36, if_neg hj42])) ?_
                have zo1 : zbO (zbB (τ 37) (τ 38) (τ 41) hn bnd lf) (τ 37) (τ 38) (τ 41) hn sn dn (τ 39) (τ 40) (τ 43) w (ou, bt) = ((zbQ (zbB (τ 37) (τ 38) (τ 41) hn bnd lf) (τ 41) hn w sn dn (τ 39) (τ 40) (τ 43) ((zbP (zbB (τ 37) (τ 38) (τ 41) hn bnd lf) hn w sn dn (τ 39) (τ 40) (τ 43) (ou, bt)).1, ((zbP (zbB (τ 37) (τ 38) (τ 41) hn bnd lf) hn w sn dn (τ 39) (τ 40) (τ 43) (ou, bt)).2))).1, ((zbQ (zbB (τ 37) (τ 38) (τ 41) hn bnd lf) (τ 41) hn w sn dn (τ 39) (τ 40) (τ 43) ((zbP (zbB (τ 37) (τ 38) (τ 41) hn bnd lf) hn w sn dn (τ 39) (τ 40) (τ 43) (ou, bt)).1, ((zbP (zbB (τ 37) (τ 38) (τ 41) hn bnd lf) hn w sn dn (τ 39) (τ 40) (τ 43) (ou, bt)).2))).2)) := by unfold zbO; rw [zs1]; first | (rw [if_pos (by omega)]; done) | (rw [if_neg (by omega)]; done)
                have zv1 : (zbW (zbO (zbB (τ 37) (τ 38) (τ 41) hn bnd lf) (τ 37) (τ 38) (τ 41) hn sn dn (τ 39) (τ 40) (τ 43)) bnd (w + 1) (τ 42, τ 36 10)) = ((zbQ (zbB (τ 37) (τ 38) (τ 41) hn bnd lf) (τ 41) hn w sn dn (τ 39) (τ 40) (τ 43) ((zbP (zbB (τ 37) (τ 38) (τ 41) hn bnd lf) hn w sn dn (τ 39) (τ 40) (τ 43) (ou, bt)).1, ((zbP (zbB (τ 37) (τ 38) (τ 41) hn bnd lf) hn w sn dn (τ 39) (τ 40) (τ 43) (ou, bt)).2))).1, ((zbQ (zbB (τ 37) (τ 38) (τ 41) hn bnd lf) (τ 41) hn w sn dn (τ 39) (τ 40) (τ 43) ((zbP (zbB (τ 37) (τ 38) (τ 41) hn bnd lf) hn w sn dn (τ 39) (τ 40) (τ 43) (ou, bt)).1, ((zbP (zbB (τ 37) (τ 38) (τ 41) hn bnd lf) hn w sn dn (τ 39) (τ 40) (τ 43) (ou, bt)).2))).2)) := by unfold zbW; rw [hZ, if_neg (by show ¬ bt ≤ bnd; omega)]; exact zo1
                have hJ2 := zbI_R hJ (zbO_R zG (hn := hn) (w := w) (sn := sn) (Pl := τ 37) (Pu := τ 38) (Sp := τ 41) (qb := τ 40) (fr := τ 43) (s := (ou, bt)) a3.1 zp0 zPl (by omega))
                rw [zo1] at hJ2
                refine hv_iinc C 4 4 [(4, .int (iz (((w : Nat) : Int) + 1))), (0, .ref (b + 36)), (1, .int (iz ((lf + 1 : Nat) : Int))), (2, .int (iz sn)), (3, .int (iz dn))] dX6_begin_90 rfl (by decide) rfl ?_
                refine hv_goto C 20 dX6_begin_93 (by decide) ?_
                refine hv_loc [1, 2, 3, 4, 0] [(0, .ref (b + 36)), (1, .int (iz ((lf + 1 : Nat) : Int))), (2, .int (iz sn)), (3, .int (iz dn)), (4, .int (iz (((w : Nat) : Int) + 1)))] rfl ?_
                exact ih20 (w + 1) ((zbQ (zbB (τ 37) (τ 38) (τ 41) hn bnd lf) (τ 41) hn w sn dn (τ 39) (τ 40) (τ 43) ((zbP (zbB (τ 37) (τ 38) (τ 41) hn bnd lf) hn w sn dn (τ 39) (τ 40) (τ 43) (ou, bt)).1, ((zbP (zbB (τ 37) (τ 38) (τ 41) hn bnd lf) hn w sn dn (τ 39) (τ 40) (τ 43) (ou, bt)).2))).2) (zbQ (zbB (τ 37) (τ 38) (τ 41) hn bnd lf) (τ 41) hn w sn dn (τ 39) (τ 40) (τ 43) ((zbP (zbB (τ 37) (τ 38) (τ 41) hn bnd lf) hn w sn dn (τ 39) (τ 40) (τ 43) (ou, bt)).1, ((zbP (zbB (τ 37) (τ 38) (τ 41) hn bnd lf) hn w sn dn (τ 39) (τ 40) (τ 43) (ou, bt)).2))).1 (by omega) (by omega) zv1 hJ2
    refine hv_loc [1, 2, 3, 4, 0] [(0, .ref (b + 36)), (1, .int (iz ((lf + 1 : Nat) : Int))), (2, .int (iz sn)), (3, .int (iz dn)), (4, .int (iz 0))] rfl ?_
    refine zt_st (τ2 := sA τ 42 (τ 42)) ((sA_id τ 42).symm) ?_
    refine zt_st (τ2 := sA (sA τ 36 (ua (τ 36) 10 (τ 36 10))) 42 (τ 42)) ((fid9 (sA τ 42 (τ 42)) 36 10 (v := τ 36 10) (by rfl)).trans (by rw [sA_comm (j := 42) (k := 36) (by decide)]; first | done | rfl)) ?_
    exact L20 _ 0 (τ 36 10) (τ 42) (Nat.lt_succ_self _) (by omega) rfl hI
  · skip
    exfalso; omega
theorem zbK_all (l : Launch) {D : va_G} {ar : Nat → ClassId} {B : Nat → Prop} {b n : Nat} {w0 : zcW} {hn : Nat} (hn3 : 1 ≤ hn ∧ hn ≤ 3) {bnd : Int} (hbr : inI bnd) : ∀ lf : Nat, zbK l D ar B b w0 n hn bnd lf
  | 0 => fun τ sn dn h1 h2 h3 => by
    have k := k_X6_begin_0 l (D := D) (ar := ar) (B := B) (b := b) (n := n) (w0 := w0) hn bnd τ sn dn h1 h2 h3
    have e : sA τ 36 (ua (τ 36) 10 (if dn < τ 36 10 then dn else τ 36 10)) = sA (sA τ 36 (ua (τ 36) 10 (if dn < τ 36 10 then dn else τ 36 10))) 42 (τ 42) := by
      funext j9
      by_cases h : j9 = 36
      · subst h; rfl
      · by_cases g : j9 = 42
        · subst g; rfl
        · simp only [sA, if_neg h, if_neg g]
    rw [e] at k
    exact k
  | lf + 1 => fun τ sn dn h1 h2 h3 => k_X6_begin_S l hn lf bnd τ sn dn h1 h2 hn3 h3 (zbK_all l hn3 hbr lf) hbr

