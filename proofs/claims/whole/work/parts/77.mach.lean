/-! what the class's search can reach -/
def ach (Pl Pu Sp : Nat → Int) (hn : Nat) : Nat → Int → Int → (Nat → Int) → (Nat → Int) → (Nat → Int) → (Nat → Int) → Int → Prop
  | 0, _, dn, _, _, _, _, v => v = dn
  | lf + 1, sn, dn, pb, qb, fr, ou, v => ∃ w, w < 13 ∧
      ((pb w < Pl w ∧ ach Pl Pu Sp hn lf (zmx sn (fr (sh9 fr (hn - 1)))) (zmx dn (zmx sn (fr (sh9 fr (hn - 1))) + 2)) (ua pb w (pb w + 1)) qb (ua fr (sh9 fr (hn - 1)) (zmx sn (fr (sh9 fr (hn - 1))) + 2)) (ua ou (7 * w + (pb w).toNat) (zmx sn (fr (sh9 fr (hn - 1))) + 2)) v) ∨
       (qb w < Pu w ∧ zbC qb pb Sp ou w ≠ -1 ∧ ach Pl Pu Sp hn lf (zmx (zbC qb pb Sp ou w) (zmx sn (fr (sh9 fr (hn - 1))))) (zmx dn (zmx (zbC qb pb Sp ou w) (zmx sn (fr (sh9 fr (hn - 1)))) + 3)) pb (ua qb w (qb w + 1)) (ua fr (sh9 fr (hn - 1)) (zmx (zbC qb pb Sp ou w) (zmx sn (fr (sh9 fr (hn - 1)))) + 3)) ou v))
theorem ach_dn {Pl Pu Sp : Nat → Int} {hn : Nat} : ∀ (lf : Nat) (sn dn : Int) (pb qb fr ou : Nat → Int) (v : Int), ach Pl Pu Sp hn lf sn dn pb qb fr ou v → dn ≤ v
  | 0, _, dn, _, _, _, _, v, h => by have h2 : v = dn := h; omega
  | lf + 1, sn, dn, pb, qb, fr, ou, v, h => by
    obtain ⟨w, _, ⟨_, h2⟩ | ⟨_, _, h2⟩⟩ := h
    · exact Int.le_trans (zmx_l _ _) (ach_dn lf _ _ _ _ _ _ v h2)
    · exact Int.le_trans (zmx_l _ _) (ach_dn lf _ _ _ _ _ _ v h2)
/-- the outs of those that have begun -/
def ouE (pb ou ou2 : Nat → Int) : Prop := ∀ w k : Nat, w < 13 → k < 7 → (k : Int) < pb w → ou (7 * w + k) = ou2 (7 * w + k)
theorem zbC_o {qb pb Sp ou ou2 : Nat → Int} {w : Nat} (hw : w < 13) (hp : 0 ≤ pb w ∧ pb w ≤ 7) (h : ouE pb ou ou2) : zbC qb pb Sp ou w = zbC qb pb Sp ou2 w := by
  unfold zbC
  split
  · rfl
  · split
    · have := h w ((qb w + 1 - Sp w).toNat - 1) hw (by omega) (by omega)
      rw [show 7 * w + ((qb w + 1 - Sp w).toNat - 1) = 7 * w + (qb w + 1 - Sp w).toNat - 1 by omega] at this
      exact this
    · rfl
theorem ach_o {Pl Pu Sp : Nat → Int} {hn : Nat} (hPl : ∀ w, w < 13 → Pl w ≤ 7) : ∀ (lf : Nat) (sn dn : Int) (pb qb fr ou ou2 : Nat → Int) (v : Int), (∀ w, w < 13 → 0 ≤ pb w ∧ pb w ≤ 7) → ouE pb ou ou2 → ach Pl Pu Sp hn lf sn dn pb qb fr ou v → ach Pl Pu Sp hn lf sn dn pb qb fr ou2 v
  | 0, _, _, _, _, _, _, _, _, _, _, h => h
  | lf + 1, sn, dn, pb, qb, fr, ou, ou2, v, hp, ho, h => by
    obtain ⟨w, hw, h⟩ := h
    refine ⟨w, hw, ?_⟩
    rcases h with ⟨h1, h2⟩ | ⟨h1, h2, h3⟩
    · refine Or.inl ⟨h1, ach_o hPl lf _ _ _ _ _ _ _ v (fun u hu => ?_) (fun u k a b c => ?_) h2⟩
      · have := hp u hu
        have := hPl w hw
        unfold ua; split
        · next e => subst e; omega
        · exact hp u hu
      · unfold ua at c ⊢
        have := hp w hw
        by_cases e : 7 * u + k = 7 * w + (pb w).toNat
        · rw [if_pos e, if_pos e]
        · rw [if_neg e, if_neg e]
          refine ho u k a b ?_
          split at c
          · next e2 => subst e2; omega
          · exact c
    · rw [zbC_o hw (hp w hw) ho] at h2 h3
      exact Or.inr ⟨h1, h2, ach_o hPl lf _ _ _ _ _ _ _ v hp ho h3⟩
/-- the search finds what can be reached, or stops at the bound -/
def zbS (bnd : Int) (s t : zbT) (R : Int → Prop) : Prop := (t.2 = s.2 ∨ R t.2) ∧ ∀ v, R v → t.2 ≤ v ∨ t.2 ≤ bnd
theorem zbW_S {bnd : Int} {pb : Nat → Int} {body : Nat → zbT → zbT} {R : Nat → Int → Prop} (hR : ∀ w s, w < 13 → zbR pb s (body w s)) {s0 : zbT} (h : ∀ w s, w < 13 → zbR pb s0 s → zbS bnd s (body w s) (R w)) : ∀ n : Nat, n ≤ 13 → zbR pb s0 (zbW body bnd n s0) ∧ zbS bnd s0 (zbW body bnd n s0) (fun v => ∃ w, w < n ∧ R w v)
  | 0, _ => ⟨zbR.refl pb s0, Or.inl rfl, fun v ⟨w, q, _⟩ => absurd q (Nat.not_lt_zero _)⟩
  | n + 1, hn => by
    obtain ⟨a1, a2, a3⟩ := zbW_S hR h n (by omega)
    unfold zbW
    split
    · next c =>
      refine ⟨a1, a2.elim Or.inl (fun ⟨w, q, z⟩ => Or.inr ⟨w, by omega, z⟩), fun v _ => Or.inr c⟩
    · next c =>
      have b := h n _ (by omega) a1
      have r := hR n (zbW body bnd n s0) (by omega)
      refine ⟨a1.tr r, ?_, fun v hv => ?_⟩
      · rcases b.1 with z | z
        · rw [z]; exact a2.elim Or.inl (fun ⟨w, q, z⟩ => Or.inr ⟨w, by omega, z⟩)
        · exact Or.inr ⟨n, by omega, z⟩
      · obtain ⟨w, q, z⟩ := hv
        have le := r.2.1
        by_cases e : w = n
        · subst e; exact b.2 v z
        · rcases a3 v ⟨w, by omega, z⟩ with y | y
          · exact Or.inl (Int.le_trans le y)
          · exact Or.inr (Int.le_trans le y)
theorem zbB_S {Pl Pu Sp : Nat → Int} {hn : Nat} {bnd : Int} (hPl : ∀ w, w < 13 → Pl w ≤ 7) : ∀ (lf : Nat) (sn dn : Int) (pb qb fr : Nat → Int) (s : zbT), 0 ≤ dn → (∀ w, w < 13 → 0 ≤ pb w ∧ pb w ≤ 7) → zbS bnd s (zbB Pl Pu Sp hn bnd lf sn dn pb qb fr s) (ach Pl Pu Sp hn lf sn dn pb qb fr s.1)
  | 0, sn, dn, pb, qb, fr, s, h0, hp => by
    refine ⟨?_, fun v hv => ?_⟩
    · show (if dn < s.2 then dn else s.2) = s.2 ∨ (if dn < s.2 then dn else s.2) = dn
      split
      · exact Or.inr rfl
      · exact Or.inl rfl
    · have hv2 : v = dn := hv
      left
      show (if dn < s.2 then dn else s.2) ≤ v
      split <;> omega
  | lf + 1, sn, dn, pb, qb, fr, s, h0, hp => by
    have G := zbB_R Pl Pu Sp hn bnd hPl lf
    have hp0 : ∀ w, w < 13 → 0 ≤ pb w := fun w q => (hp w q).1
    have key := zbW_S (bnd := bnd) (pb := pb) (s0 := s) (body := zbO (zbB Pl Pu Sp hn bnd lf) Pl Pu Sp hn sn dn pb qb fr)
      (R := fun w v => (pb w < Pl w ∧ ach Pl Pu Sp hn lf (zmx sn (fr (sh9 fr (hn - 1)))) (zmx dn (zmx sn (fr (sh9 fr (hn - 1))) + 2)) (ua pb w (pb w + 1)) qb (ua fr (sh9 fr (hn - 1)) (zmx sn (fr (sh9 fr (hn - 1))) + 2)) (ua s.1 (7 * w + (pb w).toNat) (zmx sn (fr (sh9 fr (hn - 1))) + 2)) v) ∨
       (qb w < Pu w ∧ zbC qb pb Sp s.1 w ≠ -1 ∧ ach Pl Pu Sp hn lf (zmx (zbC qb pb Sp s.1 w) (zmx sn (fr (sh9 fr (hn - 1))))) (zmx dn (zmx (zbC qb pb Sp s.1 w) (zmx sn (fr (sh9 fr (hn - 1)))) + 3)) pb (ua qb w (qb w + 1)) (ua fr (sh9 fr (hn - 1)) (zmx (zbC qb pb Sp s.1 w) (zmx sn (fr (sh9 fr (hn - 1)))) + 3)) s.1 v))
      (fun w s hw => zbO_R G h0 hp0 hPl hw) (fun w r hw hr => ?_) 13 (Nat.le_refl _)
    · exact key.2
    · -- one wire
      have oe : ouE pb r.1 s.1 := fun u k a b c => hr.1 u k a b c
      have oe' : ouE pb s.1 r.1 := fun u k a b c => (hr.1 u k a b c).symm
      have s1 : zbR pb r (if pb w < Pl w then zbP (zbB Pl Pu Sp hn bnd lf) hn w sn dn pb qb fr r else r) := by
        split
        · next c => exact zbP_R G h0 hp0 hw (by have := hPl w hw; omega)
        · exact zbR.refl pb r
      have ex : ∀ (o1 o2 : Nat → Int), ouE pb o1 o2 → ouE (ua pb w (pb w + 1)) (ua o1 (7 * w + (pb w).toNat) (zmx sn (fr (sh9 fr (hn - 1))) + 2)) (ua o2 (7 * w + (pb w).toNat) (zmx sn (fr (sh9 fr (hn - 1))) + 2)) := by
        intro o1 o2 ho u k a b c
        unfold ua at c ⊢
        have := hp w hw
        by_cases e : 7 * u + k = 7 * w + (pb w).toNat
        · rw [if_pos e, if_pos e]
        · rw [if_neg e, if_neg e]
          refine ho u k a b ?_
          split at c
          · next e2 => subst e2; omega
          · exact c
      have pbw : pb w < Pl w → ∀ u, u < 13 → 0 ≤ ua pb w (pb w + 1) u ∧ ua pb w (pb w + 1) u ≤ 7 := by
        intro c u hu
        have := hp u hu
        have := hPl w hw
        unfold ua; split
        · next e => subst e; omega
        · exact hp u hu
      -- the pull
      have pull : zbS bnd r (if pb w < Pl w then zbP (zbB Pl Pu Sp hn bnd lf) hn w sn dn pb qb fr r else r) (fun v => pb w < Pl w ∧ ach Pl Pu Sp hn lf (zmx sn (fr (sh9 fr (hn - 1)))) (zmx dn (zmx sn (fr (sh9 fr (hn - 1))) + 2)) (ua pb w (pb w + 1)) qb (ua fr (sh9 fr (hn - 1)) (zmx sn (fr (sh9 fr (hn - 1))) + 2)) (ua s.1 (7 * w + (pb w).toNat) (zmx sn (fr (sh9 fr (hn - 1))) + 2)) v) := by
        by_cases c : pb w < Pl w
        · rw [if_pos c]
          unfold zbP
          split
          · next g =>
            refine ⟨Or.inl rfl, fun v hv => Or.inl ?_⟩
            have := ach_dn lf _ _ _ _ _ _ v hv.2
            have := zmx_r dn (zmx sn (fr (sh9 fr (hn - 1))) + 2)
            omega
          · next g =>
            have z := zbB_S (Pu := Pu) (Sp := Sp) (hn := hn) (bnd := bnd) hPl lf (zmx sn (fr (sh9 fr (hn - 1)))) (zmx dn (zmx sn (fr (sh9 fr (hn - 1))) + 2)) (ua pb w (pb w + 1)) qb (ua fr (sh9 fr (hn - 1)) (zmx sn (fr (sh9 fr (hn - 1))) + 2)) (ua r.1 (7 * w + (pb w).toNat) (zmx sn (fr (sh9 fr (hn - 1))) + 2), r.2) (Int.le_trans h0 (zmx_l _ _)) (pbw c)
            exact ⟨z.1.elim Or.inl (fun q => Or.inr ⟨c, ach_o hPl lf _ _ _ _ _ _ _ _ (pbw c) (ex _ _ oe) q⟩), fun v hv => z.2 v (ach_o hPl lf _ _ _ _ _ _ _ _ (pbw c) (ex _ _ oe') hv.2)⟩
        · rw [if_neg c]
          exact ⟨Or.inl rfl, fun v hv => absurd hv.1 c⟩
      generalize hr2 : (if pb w < Pl w then zbP (zbB Pl Pu Sp hn bnd lf) hn w sn dn pb qb fr r else r) = r2 at s1 pull
      have oe2 : ouE pb r2.1 s.1 := fun u k a b c => (s1.1 u k a b c).trans (oe u k a b c)
      have oe2' : ouE pb s.1 r2.1 := fun u k a b c => (oe2 u k a b c).symm
      unfold zbO
      rw [hr2]
      by_cases c : qb w < Pu w
      · rw [if_pos c]
        have cz := zbC_o (qb := qb) (Sp := Sp) hw (hp w hw) oe2
        have put : zbS bnd r2 (zbQ (zbB Pl Pu Sp hn bnd lf) Sp hn w sn dn pb qb fr r2) (fun v => qb w < Pu w ∧ zbC qb pb Sp s.1 w ≠ -1 ∧ ach Pl Pu Sp hn lf (zmx (zbC qb pb Sp s.1 w) (zmx sn (fr (sh9 fr (hn - 1))))) (zmx dn (zmx (zbC qb pb Sp s.1 w) (zmx sn (fr (sh9 fr (hn - 1)))) + 3)) pb (ua qb w (qb w + 1)) (ua fr (sh9 fr (hn - 1)) (zmx (zbC qb pb Sp s.1 w) (zmx sn (fr (sh9 fr (hn - 1)))) + 3)) s.1 v) := by
          unfold zbQ
          rw [cz]
          split
          · next g => exact ⟨Or.inl rfl, fun v hv => absurd g hv.2.1⟩
          · next g =>
            split
            · next g2 =>
              refine ⟨Or.inl rfl, fun v hv => Or.inl ?_⟩
              have := ach_dn lf _ _ _ _ _ _ v hv.2.2
              have := zmx_r dn (zmx (zbC qb pb Sp s.1 w) (zmx sn (fr (sh9 fr (hn - 1)))) + 3)
              omega
            · next g2 =>
              have z := zbB_S (Pu := Pu) (Sp := Sp) (hn := hn) (bnd := bnd) hPl lf (zmx (zbC qb pb Sp s.1 w) (zmx sn (fr (sh9 fr (hn - 1))))) (zmx dn (zmx (zbC qb pb Sp s.1 w) (zmx sn (fr (sh9 fr (hn - 1)))) + 3)) pb (ua qb w (qb w + 1)) (ua fr (sh9 fr (hn - 1)) (zmx (zbC qb pb Sp s.1 w) (zmx sn (fr (sh9 fr (hn - 1)))) + 3)) r2 (Int.le_trans h0 (zmx_l _ _)) hp
              exact ⟨z.1.elim Or.inl (fun q => Or.inr ⟨c, g, ach_o hPl lf _ _ _ _ _ _ _ _ hp oe2 q⟩), fun v hv => z.2 v (ach_o hPl lf _ _ _ _ _ _ _ _ hp oe2' hv.2.2)⟩
        have le := (zbQ_R G (Sp := Sp) (hn := hn) (w := w) (sn := sn) (qb := qb) (fr := fr) (s := r2) h0 hp0).2.1
        refine ⟨?_, fun v hv => ?_⟩
        · rcases put.1 with z | z
          · rw [z]; exact pull.1.elim Or.inl (fun q => Or.inr (Or.inl q))
          · exact Or.inr (Or.inr z)
        · rcases hv with hv | hv
          · rcases pull.2 v hv with z | z
            · exact Or.inl (Int.le_trans le z)
            · exact Or.inr (Int.le_trans le z)
          · exact put.2 v hv
      · rw [if_neg c]
        exact ⟨pull.1.elim Or.inl (fun q => Or.inr (Or.inl q)), fun v hv => hv.elim (fun hv => pull.2 v hv) (fun hv => absurd hv.1 c)⟩
/-! no order ends before the work is done -/
theorem sh9_lt (fr : Nat → Int) {hn : Nat} (h : 1 ≤ hn) : sh9 fr (hn - 1) < hn := by have := sh9_le fr (hn - 1); omega
theorem ach_w {Pl Pu Sp : Nat → Int} {hn : Nat} (h1 : 1 ≤ hn) : ∀ (lf : Nat) (sn dn : Int) (pb qb fr ou : Nat → Int) (v : Int), (∀ w, w < 13 → pb w ≤ Pl w ∧ qb w ≤ Pu w) → (lf : Int) = su9 (fun w => Pl w - pb w) 13 + su9 (fun w => Pu w - qb w) 13 → (∀ i, i < hn → fr i ≤ dn) → ach Pl Pu Sp hn lf sn dn pb qb fr ou v → su9 fr hn + (2 * su9 (fun w => Pl w - pb w) 13 + 3 * su9 (fun w => Pu w - qb w) 13) ≤ (hn : Int) * v
  | 0, sn, dn, pb, qb, fr, ou, v, hb, hl, hf, h => by
    have h2 : v = dn := h
    have a := (su9_le (f := fun w => Pl w - pb w) 13 (fun i q => by have := hb i q; show 0 ≤ Pl i - pb i; omega)).2
    have b := (su9_le (f := fun w => Pu w - qb w) 13 (fun i q => by have := hb i q; show 0 ≤ Pu i - qb i; omega)).2
    have c : ∀ m : Nat, (∀ i, i < m → fr i ≤ dn) → su9 fr m ≤ (m : Int) * dn := by
      intro m
      induction m with
      | zero => intro _; show (0 : Int) ≤ ((0 : Nat) : Int) * dn; rw [Int.natCast_zero, Int.zero_mul]; exact Int.le_refl _
      | succ m ih =>
        intro q
        have x := ih (fun i z => q i (by omega))
        have y := q m (by omega)
        show su9 fr m + fr m ≤ _
        rw [show ((m + 1 : Nat) : Int) = (m : Int) + 1 by omega, Int.add_mul, Int.one_mul]
        omega
    have d := c hn hf
    rw [h2]
    omega
  | lf + 1, sn, dn, pb, qb, fr, ou, v, hb, hl, hf, h => by
    have hh := sh9_lt fr h1
    obtain ⟨w, hw, ⟨g1, g2⟩ | ⟨g1, g2, g3⟩⟩ := h
    · have e1 : su9 (fun u => Pl u - ua pb w (pb w + 1) u) 13 = su9 (fun u => Pl u - pb u) 13 - 1 := by
        have : su9 (fun u => Pl u - ua pb w (pb w + 1) u) 13 = su9 (ua (fun u => Pl u - pb u) w (Pl w - pb w - 1)) 13 := su9_eq 13 (fun i _ => by
          unfold ua; split
          · next e => subst e; omega
          · rfl)
        rw [this, su9_ua, if_pos hw]; omega
      have e2 := zmx_r sn (fr (sh9 fr (hn - 1)))
      have z := ach_w h1 lf _ _ _ _ _ _ v (fun u hu => ?_) (by rw [e1]; omega) (fun i hi => ?_) g2
      · rw [e1, su9_ua, if_pos hh] at z
        omega
      · have := hb u hu
        unfold ua; split
        · next e => subst e; omega
        · exact this
      · unfold ua; split
        · exact zmx_r _ _
        · exact Int.le_trans (hf i hi) (zmx_l _ _)
    · have e1 : su9 (fun u => Pu u - ua qb w (qb w + 1) u) 13 = su9 (fun u => Pu u - qb u) 13 - 1 := by
        have : su9 (fun u => Pu u - ua qb w (qb w + 1) u) 13 = su9 (ua (fun u => Pu u - qb u) w (Pu w - qb w - 1)) 13 := su9_eq 13 (fun i _ => by
          unfold ua; split
          · next e => subst e; omega
          · rfl)
        rw [this, su9_ua, if_pos hw]; omega
      have e2 := zmx_r sn (fr (sh9 fr (hn - 1)))
      have e3 := zmx_r (zbC qb pb Sp ou w) (zmx sn (fr (sh9 fr (hn - 1))))
      have z := ach_w h1 lf _ _ _ _ _ _ v (fun u hu => ?_) (by rw [e1]; omega) (fun i hi => ?_) g3
      · rw [e1, su9_ua, if_pos hh] at z
        omega
      · have := hb u hu
        unfold ua; split
        · next e => subst e; omega
        · exact this
      · unfold ua; split
        · exact zmx_r _ _
        · exact Int.le_trans (hf i hi) (zmx_l _ _)
