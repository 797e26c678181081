/-! along one order the class's search and the reference's reckoning go together -/
def acO (wdb : Nat → Bool) (W P Sp O : Nat → Int) (hn : Nat) : Nat → Nat → Int → Int → (Nat → Int) → (Nat → Int) → (Nat → Int) → (Nat → Int) → Int
  | 0, _, _, dn, _, _, _, _ => dn
  | r + 1, k, sn, dn, pb, qb, fr, ou =>
    if P (O k).toNat = 0 then acO wdb W P Sp O hn r (k + 1) (zmx sn (fr (sh9 fr (hn - 1)))) (zmx dn (zmx sn (fr (sh9 fr (hn - 1))) + 2)) (ua pb (cl9 wdb W (O k).toNat) (pb (cl9 wdb W (O k).toNat) + 1)) qb (ua fr (sh9 fr (hn - 1)) (zmx sn (fr (sh9 fr (hn - 1))) + 2)) (ua ou (7 * cl9 wdb W (O k).toNat + (pb (cl9 wdb W (O k).toNat)).toNat) (zmx sn (fr (sh9 fr (hn - 1))) + 2))
    else if zbC qb pb Sp ou (cl9 wdb W (O k).toNat) = -1 then -1
    else acO wdb W P Sp O hn r (k + 1) (zmx (zbC qb pb Sp ou (cl9 wdb W (O k).toNat)) (zmx sn (fr (sh9 fr (hn - 1))))) (zmx dn (zmx (zbC qb pb Sp ou (cl9 wdb W (O k).toNat)) (zmx sn (fr (sh9 fr (hn - 1)))) + 3)) pb (ua qb (cl9 wdb W (O k).toNat) (qb (cl9 wdb W (O k).toNat) + 1)) (ua fr (sh9 fr (hn - 1)) (zmx (zbC qb pb Sp ou (cl9 wdb W (O k).toNat)) (zmx sn (fr (sh9 fr (hn - 1)))) + 3)) ou
theorem sh9_eq {F G : Nat → Int} : ∀ h : Nat, (∀ i, i ≤ h → F i = G i) → sh9 F h = sh9 G h
  | 0, _ => rfl
  | h + 1, e => by
    unfold sh9
    have a := sh9_eq h (fun i q => e i (by omega))
    have b := sh9_le G h
    rw [a, e (h + 1) (Nat.le_refl _), e (sh9 G h) (by omega)]
theorem cl_w {wdb : Nat → Bool} {W : Nat → Int} {x w : Nat} (hW : 0 ≤ W x ∧ W x ≤ 11) (hw : w < 12) (hd : wdb w = false) : cl9 wdb W x = w ↔ W x = (w : Int) := by
  unfold cl9
  split
  · next c => exact ⟨fun z => by omega, fun z => by rw [z, Int.toNat_natCast, hd] at c; exact absurd c (by decide)⟩
  · exact ⟨fun z => by omega, fun z => by rw [z, Int.toNat_natCast]⟩
theorem cl_lt {wdb : Nat → Bool} {W : Nat → Int} {x : Nat} (hW : 0 ≤ W x ∧ W x ≤ 11) : cl9 wdb W x < 13 := by unfold cl9; split <;> omega
theorem fP_p {wdb : Nat → Bool} {W P : Nat → Int} {x w : Nat} (hW : 0 ≤ W x ∧ W x ≤ 11) (hw : w < 12) (hd : wdb w = false) : fP9 wdb W P w x = pV9 W P (w : Int) x := by
  unfold fP9 pV9
  by_cases c : W x = (w : Int) ∧ P x = 0
  · rw [if_pos c, if_pos ⟨(cl_w hW hw hd).2 c.1, c.2⟩]
  · rw [if_neg c, if_neg (fun z => c ⟨(cl_w hW hw hd).1 z.1, z.2⟩)]
theorem fQ_q {wdb : Nat → Bool} {W P : Nat → Int} {x w : Nat} (hW : 0 ≤ W x ∧ W x ≤ 11) (hw : w < 12) (hd : wdb w = false) : fQ9 wdb W P w x = qV9 W P (w : Int) x := by
  unfold fQ9 qV9
  by_cases c : W x = (w : Int) ∧ ¬ P x = 0
  · rw [if_pos c, if_pos ⟨(cl_w hW hw hd).2 c.1, c.2⟩]
  · rw [if_neg c, if_neg (fun z => c ⟨(cl_w hW hw hd).1 z.1, z.2⟩)]
/-- what is asked of the counts -/
def Ct9 (wdb : Nat → Bool) (A Y W P Sp : Nat → Int) (n : Nat) : Prop := (n ≤ 7) ∧ (∀ x, x < n → 0 ≤ W x ∧ W x ≤ 11) ∧ (∀ w, w < 12 → wdb w = false → Sp w = A (30 + 4 * w + 3) - Y w - su9 (pV9 W P (w : Int)) n) ∧ (∀ w, w < 12 → wdb w = true → 0 < su9 (qV9 W P (w : Int)) n → su9 (qV9 W P (w : Int)) n ≤ A (30 + 4 * w + 3) - Y w - su9 (pV9 W P (w : Int)) n) ∧ (Sp 12 = 7)
theorem Ct9.n7 {wdb : Nat → Bool} {A Y W P Sp : Nat → Int} {n : Nat} (h : Ct9 wdb A Y W P Sp n) : n ≤ 7 := h.1
theorem Ct9.hW {wdb : Nat → Bool} {A Y W P Sp : Nat → Int} {n : Nat} (h : Ct9 wdb A Y W P Sp n) : ∀ x, x < n → 0 ≤ W x ∧ W x ≤ 11 := h.2.1
theorem Ct9.sp {wdb : Nat → Bool} {A Y W P Sp : Nat → Int} {n : Nat} (h : Ct9 wdb A Y W P Sp n) : ∀ w, w < 12 → wdb w = false → Sp w = A (30 + 4 * w + 3) - Y w - su9 (pV9 W P (w : Int)) n := h.2.2.1
theorem Ct9.wd {wdb : Nat → Bool} {A Y W P Sp : Nat → Int} {n : Nat} (h : Ct9 wdb A Y W P Sp n) : ∀ w, w < 12 → wdb w = true → 0 < su9 (qV9 W P (w : Int)) n → su9 (qV9 W P (w : Int)) n ≤ A (30 + 4 * w + 3) - Y w - su9 (pV9 W P (w : Int)) n := h.2.2.2.1
theorem Ct9.s12 {wdb : Nat → Bool} {A Y W P Sp : Nat → Int} {n : Nat} (h : Ct9 wdb A Y W P Sp n) : Sp 12 = 7 := h.2.2.2.2
theorem pv_sum {O : Nat → Int} {n : Nat} (h : pv9 O n) (f : Nat → Int) : su9 (fun j => f (O j).toNat) n = su9 f n := by
  have inj : ∀ i j, i < n → j < n → (O i).toNat = (O j).toNat → i = j := fun i j a b e => h.2 i j a b (by have := h.1 i a; have := h.1 j b; omega)
  have lt : ∀ i, i < n → (O i).toNat < n := fun i a => by have := h.1 i a; omega
  rw [im_sum f (fun j => (O j).toNat) n n inj lt]
  exact su9_eq n (fun x hx => im9_y (im_surj (O := fun j => (O j).toNat) inj lt x hx))
/-- of a part of an order never more than of all -/
theorem pv_part {O : Nat → Int} {n k : Nat} (h : pv9 O n) {f : Nat → Int} (h0 : ∀ x, 0 ≤ f x) (hk : k ≤ n) : su9 (fun j => f (O j).toNat) k ≤ su9 f n := by
  rw [← pv_sum h f]
  have := su9_up (f := fun j => f (O j).toNat) (fun i => h0 _) k (n - k)
  rwa [show k + (n - k) = n by omega] at this
theorem qV_0 (W P : Nat → Int) (v : Int) (x : Nat) : 0 ≤ qV9 W P v x := by unfold qV9; split <;> omega
theorem fQ_0 (wdb : Nat → Bool) (W P : Nat → Int) (c x : Nat) : 0 ≤ fQ9 wdb W P c x := by unfold fQ9; split <;> omega
theorem fP_0 (wdb : Nat → Bool) (W P : Nat → Int) (c x : Nat) : 0 ≤ fP9 wdb W P c x := by unfold fP9; split <;> omega
/-- the two reckonings stand alike after k things -/
def Sm9 (wdb : Nat → Bool) (W P O G F pb qb fr ou : Nat → Int) (k : Nat) (last : Int) : Prop := (∀ c, c < 13 → pb c = su9 (fun j => fP9 wdb W P c (O j).toNat) k) ∧ (∀ c, c < 13 → qb c = su9 (fun j => fQ9 wdb W P c (O j).toNat) k) ∧ (∀ i, i < 3 → fr i = F i) ∧ (0 ≤ last) ∧ (last ≤ 3 * (k : Int)) ∧ (∀ i, i < 3 → 0 ≤ F i ∧ F i ≤ 3 * (k : Int)) ∧ (∀ j, j < k → 0 ≤ G j ∧ G j + 2 ≤ 3 * (k : Int) ∧ G j ≤ last) ∧ (∀ w, w < 12 → wdb w = false → ∀ m : Nat, 1 ≤ m → (m : Int) ≤ pb w → ∀ t, (m : Int) ≤ gn9 W P O G (w : Int) t k ↔ ou (7 * w + m - 1) ≤ t)
theorem Sm9.p {wdb : Nat → Bool} {W P O G F pb qb fr ou : Nat → Int} {k : Nat} {last : Int} (h : Sm9 wdb W P O G F pb qb fr ou k last) : ∀ c, c < 13 → pb c = su9 (fun j => fP9 wdb W P c (O j).toNat) k := h.1
theorem Sm9.q {wdb : Nat → Bool} {W P O G F pb qb fr ou : Nat → Int} {k : Nat} {last : Int} (h : Sm9 wdb W P O G F pb qb fr ou k last) : ∀ c, c < 13 → qb c = su9 (fun j => fQ9 wdb W P c (O j).toNat) k := h.2.1
theorem Sm9.f {wdb : Nat → Bool} {W P O G F pb qb fr ou : Nat → Int} {k : Nat} {last : Int} (h : Sm9 wdb W P O G F pb qb fr ou k last) : ∀ i, i < 3 → fr i = F i := h.2.2.1
theorem Sm9.l0 {wdb : Nat → Bool} {W P O G F pb qb fr ou : Nat → Int} {k : Nat} {last : Int} (h : Sm9 wdb W P O G F pb qb fr ou k last) : 0 ≤ last := h.2.2.2.1
theorem Sm9.l3 {wdb : Nat → Bool} {W P O G F pb qb fr ou : Nat → Int} {k : Nat} {last : Int} (h : Sm9 wdb W P O G F pb qb fr ou k last) : last ≤ 3 * (k : Int) := h.2.2.2.2.1
theorem Sm9.F3 {wdb : Nat → Bool} {W P O G F pb qb fr ou : Nat → Int} {k : Nat} {last : Int} (h : Sm9 wdb W P O G F pb qb fr ou k last) : ∀ i, i < 3 → 0 ≤ F i ∧ F i ≤ 3 * (k : Int) := h.2.2.2.2.2.1
theorem Sm9.G3 {wdb : Nat → Bool} {W P O G F pb qb fr ou : Nat → Int} {k : Nat} {last : Int} (h : Sm9 wdb W P O G F pb qb fr ou k last) : ∀ j, j < k → 0 ≤ G j ∧ G j + 2 ≤ 3 * (k : Int) ∧ G j ≤ last := h.2.2.2.2.2.2.1
theorem Sm9.o {wdb : Nat → Bool} {W P O G F pb qb fr ou : Nat → Int} {k : Nat} {last : Int} (h : Sm9 wdb W P O G F pb qb fr ou k last) : ∀ w, w < 12 → wdb w = false → ∀ m : Nat, 1 ≤ m → (m : Int) ≤ pb w → ∀ t, (m : Int) ≤ gn9 W P O G (w : Int) t k ↔ ou (7 * w + m - 1) ≤ t := h.2.2.2.2.2.2.2
theorem gn_pb {wdb : Nat → Bool} {A Y W P Sp O G F pb qb fr ou : Nat → Int} {n k : Nat} {last : Int} (C : Ct9 wdb A Y W P Sp n) (hO : pv9 O n) (hk : k ≤ n) (S : Sm9 wdb W P O G F pb qb fr ou k last) {w : Nat} (hw : w < 12) (hd : wdb w = false) : su9 (fun j => pV9 W P (w : Int) (O j).toNat) k = pb w := by
  rw [S.p w (by omega)]
  exact su9_eq k (fun j hj => (fP_p (C.hW _ (by have := hO.1 j (by omega); omega)) hw hd).symm)
theorem be_put {wdb : Nat → Bool} {A Y W P Sp O G F pb qb fr ou : Nat → Int} {n k : Nat} {last fm : Int} (C : Ct9 wdb A Y W P Sp n) (hO : pv9 O n) (hk : k < n) (S : Sm9 wdb W P O G F pb qb fr ou k last) (hp : ¬ P (O k).toNat = 0) (hf : 0 ≤ fm) : be9 A Y W P O G n k fm = if zbC qb pb Sp ou (cl9 wdb W (O k).toNat) = -1 then -1 else zmx (zbC qb pb Sp ou (cl9 wdb W (O k).toNat)) fm := by
  have n7 := C.n7
  have ok := hO.1 k hk
  have wx := C.hW (O k).toNat (by omega)
  unfold be9
  rw [if_neg hp]
  generalize hx : (O k).toNat = x at *
  obtain ⟨w, hwx⟩ : ∃ w : Nat, W x = (w : Int) := ⟨(W x).toNat, by omega⟩
  have w12 : w < 12 := by omega
  have G1 : ∀ j, j < k → G j + 2 < 1000 := fun j hj => by have := S.G3 j hj; omega
  have tw : (W x).toNat = w := by omega
  have need : ∀ t, in9 Y W P O G x k t n < A (30 + 4 * (W x).toNat + 3) ↔ Y w + su9 (fun j => qV9 W P (W x) (O j).toNat) k + su9 (pV9 W P (W x)) n - A (30 + 4 * w + 3) + 1 ≤ gn9 W P O G (W x) t k := by
    intro t
    rw [in9_v, if_neg (by omega), pv_sum hO (pV9 W P (W x)), tw]
    omega
  have main := bg9_L (A := A) (Y := Y) (n := n) (by omega : k ≤ n) G1 need bF fm (by
    have := gn9_0 (W := W) (P := P) (O := O) (G := G) (v := W x) (t := fm) k
    have : bF = 1101 := rfl
    omega)
  generalize hneed : Y w + su9 (fun j => qV9 W P (W x) (O j).toNat) k + su9 (pV9 W P (W x)) n - A (30 + 4 * w + 3) + 1 = nd at main
  rw [hwx] at hneed main
  generalize bg9 A Y W P O G n x k bF fm = b at main ⊢
  -- when none is needed
  have easy : nd ≤ 0 → b = fm := by
    intro h
    rcases main with ⟨_, z⟩ | ⟨z1, _, z3⟩
    · have := z fm (Int.le_refl _)
      have := gn9_0 (W := W) (P := P) (O := O) (G := G) (v := (w : Int)) (t := fm) k
      omega
    · refine Int.le_antisymm (Int.not_lt.mp (fun c => ?_)) z1
      have := z3 fm (Int.le_refl _) c
      have := gn9_0 (W := W) (P := P) (O := O) (G := G) (v := (w : Int)) (t := fm) k
      omega
  have z0 : zmx 0 fm = fm := by unfold zmx; split <;> omega
  cases hd : wdb w with
  | true =>
    have ec : cl9 wdb W x = 12 := by unfold cl9; rw [tw, if_pos hd]
    have q12 : qb 12 + 1 ≤ 7 := by
      rw [S.q 12 (by omega)]
      have a := su9_up (f := fun j => fQ9 wdb W P 12 (O j).toNat) (fun i => fQ_0 wdb W P 12 _) (k + 1) (n - (k + 1))
      rw [show k + 1 + (n - (k + 1)) = n by omega] at a
      have e : su9 (fun j => fQ9 wdb W P 12 (O j).toNat) (k + 1) = su9 (fun j => fQ9 wdb W P 12 (O j).toNat) k + 1 := by
        show _ + fQ9 wdb W P 12 (O k).toNat = _
        rw [hx]; unfold fQ9; rw [if_pos ⟨ec, hp⟩]
      have b7 : su9 (fun j => fQ9 wdb W P 12 (O j).toNat) n ≤ su9 (fun _ => 1) n := su9_mono n (fun i _ => by unfold fQ9; split <;> omega)
      rw [su9_one] at b7
      omega
    have nz : nd ≤ 0 := by
      have a := pv_part (k := k + 1) hO (fun x => qV_0 W P (w : Int) x) (by omega)
      have e : su9 (fun j => qV9 W P (w : Int) (O j).toNat) (k + 1) = su9 (fun j => qV9 W P (w : Int) (O j).toNat) k + 1 := by
        show _ + qV9 W P (w : Int) (O k).toNat = _
        rw [hx]; unfold qV9; rw [if_pos ⟨hwx, hp⟩]
      have z := (su9_le k (fun i _ => qV_0 W P (w : Int) (O i).toNat)).2
      have := C.wd w w12 hd (by omega)
      omega
    have zc : zbC qb pb Sp ou (cl9 wdb W x) = 0 := by
      rw [ec]; unfold zbC; rw [if_pos (by rw [C.s12]; omega)]
    rw [zc, if_neg (by omega), z0]
    exact easy nz
  | false =>
    have ec : cl9 wdb W x = w := (cl_w wx w12 hd).2 hwx
    have qe : su9 (fun j => qV9 W P (w : Int) (O j).toNat) k = qb w := by
      rw [S.q w (by omega)]
      exact su9_eq k (fun j hj => (fQ_q (C.hW _ (by have := hO.1 j (by omega); omega)) w12 hd).symm)
    have pe := gn_pb C hO (by omega) S w12 hd
    have sp := C.sp w w12 hd
    have nq : nd = qb w + 1 - Sp w := by omega
    rw [ec]
    unfold zbC
    rw [← nq]
    by_cases c1 : nd ≤ 0
    · rw [if_pos c1, if_neg (by omega), z0]; exact easy c1
    · rw [if_neg c1]
      by_cases c2 : nd ≤ pb w
      · rw [if_pos c2]
        have so := S.o w w12 hd nd.toNat (by omega) (by omega)
        rw [show (nd.toNat : Int) = nd by omega] at so
        generalize ou (7 * w + nd.toNat - 1) = u at so
        have u0 : 0 ≤ u := by
          refine Int.not_lt.mp (fun z => ?_)
          have a := (so (-1)).2 (by omega)
          have : gn9 W P O G (w : Int) (-1) k = 0 := su9_z k (fun j hj => if_neg (fun y => by have := S.G3 j hj; have := y.2; omega))
          omega
        rw [if_neg (by omega)]
        have m1 := zmx_l u fm
        have m2 := zmx_r u fm
        have m3 : zmx u fm = u ∨ zmx u fm = fm := by unfold zmx; split <;> simp
        generalize zmx u fm = M at m1 m2 m3
        have gM := (so M).2 m1
        rcases main with ⟨_, z⟩ | ⟨y1, y2, y3⟩
        · have := z M m2; omega
        · have h1 : u ≤ b := (so b).1 y2
          refine Int.le_antisymm (Int.not_lt.mp (fun z => ?_)) (by omega)
          have := y3 M m2 z
          omega
      · rw [if_neg c2, if_pos rfl]
        rcases main with ⟨z, _⟩ | ⟨_, y2, _⟩
        · exact z
        · have := gn9_le (W := W) (P := P) (O := O) (G := G) (v := (w : Int)) (t := b) k
          omega
