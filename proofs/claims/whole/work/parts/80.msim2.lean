/-! the soonest end is the same -/
theorem gn9_ua {W P O G : Nat → Int} {v t s : Int} {k : Nat} : gn9 W P O (ua G k s) v t (k + 1) = gn9 W P O G v t k + (if (W (O k).toNat = v ∧ P (O k).toNat = 0) ∧ s + 2 ≤ t then 1 else 0) := by
  show su9 _ k + (if (W (O k).toNat = v ∧ P (O k).toNat = 0) ∧ ua G k s k + 2 ≤ t then 1 else 0) = su9 _ k + _
  rw [ua_at]
  have : su9 (fun j => if (W (O j).toNat = v ∧ P (O j).toNat = 0) ∧ ua G k s j + 2 ≤ t then (1 : Int) else 0) k = su9 (fun j => if (W (O j).toNat = v ∧ P (O j).toNat = 0) ∧ G j + 2 ≤ t then 1 else 0) k := su9_eq k (fun j hj => by rw [ua_ne G s (by omega : j ≠ k)])
  rw [this]
theorem fp_k {wdb : Nat → Bool} {W P O : Nat → Int} {c : Nat} (k : Nat) : 0 ≤ su9 (fun j => fP9 wdb W P c (O j).toNat) k ∧ su9 (fun j => fP9 wdb W P c (O j).toNat) k ≤ (k : Int) := by
  refine ⟨(su9_le k (fun i _ => fP_0 wdb W P c _)).2, ?_⟩
  rw [← su9_one k]
  exact su9_mono k (fun i _ => by unfold fP9; split <;> omega)
theorem sm_pull {wdb : Nat → Bool} {A Y W P Sp O G F pb qb fr ou : Nat → Int} {n k hd : Nat} {last s : Int} (C : Ct9 wdb A Y W P Sp n) (hO : pv9 O n) (hk : k < n) (S : Sm9 wdb W P O G F pb qb fr ou k last) (hp : P (O k).toNat = 0) (h1 : last ≤ s) (h2 : s ≤ 3 * (k : Int)) : Sm9 wdb W P O (ua G k s) (ua F hd (s + 2)) (ua pb (cl9 wdb W (O k).toNat) (pb (cl9 wdb W (O k).toNat) + 1)) qb (ua fr hd (s + 2)) (ua ou (7 * cl9 wdb W (O k).toNat + (pb (cl9 wdb W (O k).toNat)).toNat) (s + 2)) (k + 1) s := by
  have n7 := C.n7
  have ok := hO.1 k hk
  have wx := C.hW (O k).toNat (by omega)
  have c13 := cl_lt (wdb := wdb) wx
  have l0 := S.l0
  have pk : ∀ w, w < 13 → 0 ≤ pb w ∧ pb w ≤ (k : Int) := fun w q => by rw [S.p w q]; exact fp_k k
  refine ⟨fun u hu => ?_, fun u hu => ?_, fun i hi => ?_, by omega, by omega, fun i hi => ?_, fun j hj => ?_, fun w hw hd m m1 m2 t => ?_⟩
  · show _ = su9 _ k + fP9 wdb W P u (O k).toNat
    rw [← S.p u hu]
    unfold ua fP9
    by_cases e : u = cl9 wdb W (O k).toNat
    · rw [if_pos e, if_pos ⟨e.symm, hp⟩, e]
    · rw [if_neg e, if_neg (fun z => e z.1.symm)]; omega
  · show _ = su9 _ k + fQ9 wdb W P u (O k).toNat
    rw [← S.q u hu]
    unfold fQ9
    rw [if_neg (fun z => z.2 hp)]; omega
  · have := S.f i hi
    unfold ua
    split
    · rfl
    · exact this
  · have := S.F3 i hi
    unfold ua
    split <;> omega
  · unfold ua
    split
    · omega
    · have := S.G3 j (by omega); omega
  · rw [gn9_ua]
    have pw := pk w (by omega)
    have pc := pk _ c13
    have all : s + 2 ≤ t → gn9 W P O G (w : Int) t k = pb w := fun z => by
      rw [gn9_all (fun j hj => by have := S.G3 j hj; omega), gn_pb C hO (by omega) S hw hd]
    have le : gn9 W P O G (w : Int) t k ≤ pb w := by rw [← gn_pb C hO (by omega) S hw hd]; exact gn9_le k
    by_cases e : cl9 wdb W (O k).toNat = w
    · have ew := (cl_w wx hw hd).1 e
      rw [e, ua_at] at m2
      rw [e]
      by_cases z : s + 2 ≤ t
      · rw [if_pos ⟨⟨ew, hp⟩, z⟩, all z]
        refine ⟨fun _ => ?_, fun _ => by omega⟩
        unfold ua
        split
        · exact z
        · next g =>
          refine (S.o w hw hd m m1 (by omega) t).1 ?_
          rw [all z]; omega
      · rw [if_neg (fun y => z y.2)]
        by_cases g : (m : Int) = pb w + 1
        · refine ⟨fun y => by omega, fun y => ?_⟩
          rw [show 7 * w + m - 1 = 7 * w + (pb w).toNat by omega, ua_at] at y
          omega
        · have := S.o w hw hd m m1 (by omega) t
          rw [ua_ne _ _ (by omega), Int.add_zero]
          exact this
    · rw [if_neg (fun y => e ((cl_w wx hw hd).2 y.1.1)), Int.add_zero]
      rw [ua_ne _ _ (fun y => e y.symm)] at m2
      rw [ua_ne _ _ (by omega)]
      exact S.o w hw hd m m1 m2 t
theorem sm_put {wdb : Nat → Bool} {A Y W P Sp O G F pb qb fr ou : Nat → Int} {n k hd : Nat} {last s : Int} (C : Ct9 wdb A Y W P Sp n) (hO : pv9 O n) (hk : k < n) (S : Sm9 wdb W P O G F pb qb fr ou k last) (hp : ¬ P (O k).toNat = 0) (h1 : last ≤ s) (h2 : s ≤ 3 * (k : Int)) : Sm9 wdb W P O (ua G k s) (ua F hd (s + 3)) pb (ua qb (cl9 wdb W (O k).toNat) (qb (cl9 wdb W (O k).toNat) + 1)) (ua fr hd (s + 3)) ou (k + 1) s := by
  have l0 := S.l0
  refine ⟨fun u hu => ?_, fun u hu => ?_, fun i hi => ?_, by omega, by omega, fun i hi => ?_, fun j hj => ?_, fun w hw hd m m1 m2 t => ?_⟩
  · show _ = su9 _ k + fP9 wdb W P u (O k).toNat
    rw [← S.p u hu]
    unfold fP9
    rw [if_neg (fun z => hp z.2)]; omega
  · show _ = su9 _ k + fQ9 wdb W P u (O k).toNat
    rw [← S.q u hu]
    unfold ua fQ9
    by_cases e : u = cl9 wdb W (O k).toNat
    · rw [if_pos e, if_pos ⟨e.symm, hp⟩, e]
    · rw [if_neg e, if_neg (fun z => e z.1.symm)]; omega
  · have := S.f i hi
    unfold ua
    split
    · rfl
    · exact this
  · have := S.F3 i hi
    unfold ua
    split <;> omega
  · unfold ua
    split
    · omega
    · have := S.G3 j (by omega); omega
  · rw [gn9_ua, if_neg (fun y => hp y.1.2), Int.add_zero]
    exact S.o w hw hd m m1 m2 t
theorem sx_ac {wdb : Nat → Bool} {A Y W P Sp O : Nat → Int} {n hs : Nat} (C : Ct9 wdb A Y W P Sp n) (hO : pv9 O n) (h3 : hs < 3) : ∀ (r k : Nat) (G F pb qb fr ou : Nat → Int) (last dn : Int), r + k = n → Sm9 wdb W P O G F pb qb fr ou k last → (sx9 A Y W P O n hs r k G F last dn).1 = acO wdb W P Sp O (hs + 1) r k last dn pb qb fr ou
  | 0, _, _, _, _, _, _, _, _, _, _, _ => rfl
  | r + 1, k, G, F, pb, qb, fr, ou, last, dn, hr, S => by
    have hl := sh9_le F hs
    have he : sh9 fr (hs + 1 - 1) = sh9 F hs := sh9_eq hs (fun i q => S.f i (by omega))
    have hv : fr (sh9 fr (hs + 1 - 1)) = F (sh9 F hs) := by rw [he]; exact S.f _ (by omega)
    have a := S.F3 (sh9 F hs) (by omega)
    have l0 := S.l0
    have l3 := S.l3
    have ef : fx9q F hs last = zmx last (F (sh9 F hs)) := rfl
    have fb : last ≤ zmx last (F (sh9 F hs)) ∧ zmx last (F (sh9 F hs)) ≤ 3 * (k : Int) := by unfold zmx; split <;> omega
    unfold sx9 acO
    rw [hv, he, ef]
    have ez : ∀ x : Int, (if dn < x then x else dn) = zmx dn x := fun _ => rfl
    rw [ez]
    generalize zmx last (F (sh9 F hs)) = fm at fb
    by_cases p : P (O k).toNat = 0
    · have be : be9 A Y W P O G n k fm = fm := by unfold be9; rw [if_pos p]
      have du : du9 P O k = 2 := by unfold du9; rw [if_pos p]
      rw [be, du, if_neg (by omega), if_pos p]
      exact sx_ac C hO h3 r (k + 1) _ _ _ _ _ _ _ _ (by omega) (sm_pull C hO (by omega) S p fb.1 fb.2)
    · have be := be_put C hO (by omega : k < n) S p (by omega : 0 ≤ fm)
      have bb := be9_b (A := A) (Y := Y) (W := W) (P := P) (O := O) (n := n) (G := G) (k := k) (fr := fm) (B := 3 * (k : Int)) (fun j hj => by have := S.G3 j hj; omega) (by omega) fb.2
      have du : du9 P O k = 3 := by unfold du9; rw [if_neg p]
      rw [du, if_neg p]
      by_cases z : zbC qb pb Sp ou (cl9 wdb W (O k).toNat) = -1
      · rw [if_pos z] at be ⊢
        rw [be, if_pos (by omega)]
      · rw [if_neg z] at be ⊢
        have m := zmx_r (zbC qb pb Sp ou (cl9 wdb W (O k).toNat)) fm
        rw [be] at bb ⊢
        rw [if_neg (by omega)]
        exact sx_ac C hO h3 r (k + 1) _ _ _ _ _ _ _ _ (by omega) (sm_put C hO (by omega) S p (by omega) (by omega))
theorem ac_ach {wdb : Nat → Bool} {W P Sp O Pl Pu : Nat → Int} {n hn : Nat} (hO : pv9 O n) (hW : ∀ x, x < n → 0 ≤ W x ∧ W x ≤ 11) (hPl : ∀ c, c < 13 → Pl c = su9 (fP9 wdb W P c) n) (hPu : ∀ c, c < 13 → Pu c = su9 (fQ9 wdb W P c) n) : ∀ (r k : Nat) (sn dn : Int) (pb qb fr ou : Nat → Int), r + k = n → (∀ c, c < 13 → pb c = su9 (fun j => fP9 wdb W P c (O j).toNat) k) → (∀ c, c < 13 → qb c = su9 (fun j => fQ9 wdb W P c (O j).toNat) k) → 0 ≤ acO wdb W P Sp O hn r k sn dn pb qb fr ou → ach Pl Pu Sp hn r sn dn pb qb fr ou (acO wdb W P Sp O hn r k sn dn pb qb fr ou)
  | 0, _, _, _, _, _, _, _, _, _, _, _ => rfl
  | r + 1, k, sn, dn, pb, qb, fr, ou, hr, h1, h2, h0 => by
    have ok := hO.1 k (by omega)
    have wx := hW (O k).toNat (by omega)
    have c13 := cl_lt (wdb := wdb) wx
    unfold acO at h0 ⊢
    refine ⟨cl9 wdb W (O k).toNat, c13, ?_⟩
    by_cases p : P (O k).toNat = 0
    · rw [if_pos p] at h0 ⊢
      have f1 : ∀ u, u < 13 → ua pb (cl9 wdb W (O k).toNat) (pb (cl9 wdb W (O k).toNat) + 1) u = su9 (fun j => fP9 wdb W P u (O j).toNat) (k + 1) := by
        intro u hu
        show _ = su9 _ k + fP9 wdb W P u (O k).toNat
        rw [← h1 u hu]
        unfold ua fP9
        by_cases e : u = cl9 wdb W (O k).toNat
        · rw [if_pos e, if_pos ⟨e.symm, p⟩, e]
        · rw [if_neg e, if_neg (fun z => e z.1.symm)]; omega
      have f2 : ∀ u, u < 13 → qb u = su9 (fun j => fQ9 wdb W P u (O j).toNat) (k + 1) := by
        intro u hu
        show _ = su9 _ k + fQ9 wdb W P u (O k).toNat
        rw [← h2 u hu]
        unfold fQ9
        rw [if_neg (fun z => z.2 p)]; omega
      refine Or.inl ⟨?_, ac_ach hO hW hPl hPu r (k + 1) _ _ _ _ _ _ (by omega) f1 f2 h0⟩
      have a := pv_part (k := k + 1) hO (fun x => fP_0 wdb W P (cl9 wdb W (O k).toNat) x) (by omega)
      rw [← f1 _ c13, ua_at, ← hPl _ c13] at a
      omega
    · rw [if_neg p] at h0 ⊢
      by_cases z : zbC qb pb Sp ou (cl9 wdb W (O k).toNat) = -1
      · rw [if_pos z] at h0; omega
      · rw [if_neg z] at h0 ⊢
        have f1 : ∀ u, u < 13 → pb u = su9 (fun j => fP9 wdb W P u (O j).toNat) (k + 1) := by
          intro u hu
          show _ = su9 _ k + fP9 wdb W P u (O k).toNat
          rw [← h1 u hu]
          unfold fP9
          rw [if_neg (fun z => p z.2)]; omega
        have f2 : ∀ u, u < 13 → ua qb (cl9 wdb W (O k).toNat) (qb (cl9 wdb W (O k).toNat) + 1) u = su9 (fun j => fQ9 wdb W P u (O j).toNat) (k + 1) := by
          intro u hu
          show _ = su9 _ k + fQ9 wdb W P u (O k).toNat
          rw [← h2 u hu]
          unfold ua fQ9
          by_cases e : u = cl9 wdb W (O k).toNat
          · rw [if_pos e, if_pos ⟨e.symm, p⟩, e]
          · rw [if_neg e, if_neg (fun z => e z.1.symm)]; omega
        refine Or.inr ⟨?_, z, ac_ach hO hW hPl hPu r (k + 1) _ _ _ _ _ _ (by omega) f1 f2 h0⟩
        have a := pv_part (k := k + 1) hO (fun x => fQ_0 wdb W P (cl9 wdb W (O k).toNat) x) (by omega)
        rw [← f2 _ c13, ua_at, ← hPu _ c13] at a
        omega
/-- where more are asked for than were taken, one is left -/
theorem one_left {O : Nat → Int} {n k : Nat} {f : Nat → Int} (hi : ∀ i j, i < k → j < k → O i = O j → i = j) (hl : ∀ i, i < k → 0 ≤ O i ∧ O i < (n : Int)) (h : su9 (fun j => f (O j).toNat) k < su9 f n) : ∃ x, x < n ∧ f x ≠ 0 ∧ ∀ j, j < k → O j ≠ (x : Int) := by
  refine Classical.byContradiction fun q => ?_
  have e := im_sum f (fun j => (O j).toNat) n k (fun i j a b e => hi i j a b (by have := hl i a; have := hl j b; have e2 : (O i).toNat = (O j).toNat := e; omega)) (fun i a => by have := hl i a; show (O i).toNat < n; omega)
  have : su9 (im9 (fun j => (O j).toNat) f k) n = su9 f n := by
    refine su9_eq n (fun x hx => ?_)
    by_cases c : ∃ j, j < k ∧ (O j).toNat = x
    · exact im9_y c
    · rw [im9_n c]
      refine Classical.byContradiction fun z => q ⟨x, hx, fun y => z y.symm, fun j hj y => c ⟨j, hj, by rw [y, Int.toNat_natCast]⟩⟩
  omega
theorem ach_ac {wdb : Nat → Bool} {W P Sp Pl Pu : Nat → Int} {n hn : Nat} (hPl : ∀ c, c < 13 → Pl c = su9 (fP9 wdb W P c) n) (hPu : ∀ c, c < 13 → Pu c = su9 (fQ9 wdb W P c) n) : ∀ (r k : Nat) (sn dn : Int) (pb qb fr ou O : Nat → Int) (v : Int), r + k = n → (∀ i j, i < k → j < k → O i = O j → i = j) → (∀ i, i < k → 0 ≤ O i ∧ O i < (n : Int)) → (∀ c, c < 13 → pb c = su9 (fun j => fP9 wdb W P c (O j).toNat) k) → (∀ c, c < 13 → qb c = su9 (fun j => fQ9 wdb W P c (O j).toNat) k) → ach Pl Pu Sp hn r sn dn pb qb fr ou v → ∃ Q, pv9 Q n ∧ (∀ j, j < k → Q j = O j) ∧ acO wdb W P Sp Q hn r k sn dn pb qb fr ou = v
  | 0, k, _, _, _, _, _, _, O, v, hr, hi, hl, _, _, h => by
    have e : k = n := by omega
    subst e
    exact ⟨O, ⟨hl, fun a b => hi a b⟩, fun _ _ => rfl, Eq.symm h⟩
  | r + 1, k, sn, dn, pb, qb, fr, ou, O, v, hr, hi, hl, h1, h2, h => by
    have ext : ∀ x : Nat, x < n → (∀ j, j < k → O j ≠ (x : Int)) → (∀ i j, i < k + 1 → j < k + 1 → ua O k (x : Int) i = ua O k (x : Int) j → i = j) ∧ (∀ i, i < k + 1 → 0 ≤ ua O k (x : Int) i ∧ ua O k (x : Int) i < (n : Int)) ∧ (∀ f : Nat → Int, su9 (fun j => f (ua O k (x : Int) j).toNat) (k + 1) = su9 (fun j => f (O j).toNat) k + f x) := by
      intro x hx hj
      refine ⟨fun i j a b => ?_, fun i a => ?_, fun f => ?_⟩
      · unfold ua
        split
        · split
          · omega
          · intro z; exact absurd z.symm (hj j (by omega))
        · split
          · intro z; exact absurd z (hj i (by omega))
          · exact hi i j (by omega) (by omega)
      · unfold ua
        split
        · omega
        · exact hl i (by omega)
      · show su9 _ k + f (ua O k (x : Int) k).toNat = _
        rw [ua_at, Int.toNat_natCast, su9_eq k (fun j q => by rw [ua_ne O (x : Int) (by omega : j ≠ k)])]
    obtain ⟨w, hw, ⟨g1, g2⟩ | ⟨g1, g2, g3⟩⟩ := h
    · obtain ⟨x, x1, x2, x3⟩ := one_left (f := fP9 wdb W P w) hi hl (by rw [← h1 w hw, ← hPl w hw]; exact g1)
      obtain ⟨e1, e2, e3⟩ := ext x x1 x3
      have cx : cl9 wdb W x = w ∧ P x = 0 := by
        refine Classical.byContradiction fun z => x2 ?_
        unfold fP9; rw [if_neg z]
      have f1 : ∀ u, u < 13 → ua pb w (pb w + 1) u = su9 (fun j => fP9 wdb W P u (ua O k (x : Int) j).toNat) (k + 1) := by
        intro u hu
        rw [e3 (fP9 wdb W P u), ← h1 u hu]
        unfold ua fP9
        by_cases e : u = w
        · rw [if_pos e, if_pos ⟨cx.1.trans e.symm, cx.2⟩, e]
        · rw [if_neg e, if_neg (fun z => e (z.1.symm.trans cx.1))]; omega
      have f2 : ∀ u, u < 13 → qb u = su9 (fun j => fQ9 wdb W P u (ua O k (x : Int) j).toNat) (k + 1) := by
        intro u hu
        rw [e3 (fQ9 wdb W P u), ← h2 u hu]
        unfold fQ9
        rw [if_neg (fun z => z.2 cx.2)]; omega
      obtain ⟨Q, q1, q2, q3⟩ := ach_ac hPl hPu r (k + 1) _ _ _ _ _ _ (ua O k (x : Int)) v (by omega) e1 e2 f1 f2 g2
      have qk : (Q k).toNat = x := by rw [q2 k (by omega), ua_at, Int.toNat_natCast]
      refine ⟨Q, q1, fun j hj => by rw [q2 j (by omega), ua_ne O _ (by omega)], ?_⟩
      unfold acO
      rw [qk, if_pos cx.2, cx.1]
      exact q3
    · obtain ⟨x, x1, x2, x3⟩ := one_left (f := fQ9 wdb W P w) hi hl (by rw [← h2 w hw, ← hPu w hw]; exact g1)
      obtain ⟨e1, e2, e3⟩ := ext x x1 x3
      have cx : cl9 wdb W x = w ∧ ¬ P x = 0 := by
        refine Classical.byContradiction fun z => x2 ?_
        unfold fQ9; rw [if_neg z]
      have f1 : ∀ u, u < 13 → pb u = su9 (fun j => fP9 wdb W P u (ua O k (x : Int) j).toNat) (k + 1) := by
        intro u hu
        rw [e3 (fP9 wdb W P u), ← h1 u hu]
        unfold fP9
        rw [if_neg (fun z => cx.2 z.2)]; omega
      have f2 : ∀ u, u < 13 → ua qb w (qb w + 1) u = su9 (fun j => fQ9 wdb W P u (ua O k (x : Int) j).toNat) (k + 1) := by
        intro u hu
        rw [e3 (fQ9 wdb W P u), ← h2 u hu]
        unfold ua fQ9
        by_cases e : u = w
        · rw [if_pos e, if_pos ⟨cx.1.trans e.symm, cx.2⟩, e]
        · rw [if_neg e, if_neg (fun z => e (z.1.symm.trans cx.1))]; omega
      obtain ⟨Q, q1, q2, q3⟩ := ach_ac hPl hPu r (k + 1) _ _ _ _ _ _ (ua O k (x : Int)) v (by omega) e1 e2 f1 f2 g3
      have qk : (Q k).toNat = x := by rw [q2 k (by omega), ua_at, Int.toNat_natCast]
      refine ⟨Q, q1, fun j hj => by rw [q2 j (by omega), ua_ne O _ (by omega)], ?_⟩
      unfold acO
      rw [qk, if_neg cx.2, cx.1, if_neg g2]
      exact q3
theorem sm_0 {wdb : Nat → Bool} {W P O G F F2 B1 B2 ou : Nat → Int} : Sm9 wdb W P O G (zt F 3) (zt B1 13) (zt B2 13) (zt F2 3) ou 0 0 := by
  refine ⟨fun u hu => zt_0 B1 13 u hu, fun u hu => zt_0 B2 13 u hu, fun i hi => by rw [zt_0 _ 3 i hi, zt_0 _ 3 i hi], by omega, by omega, fun i hi => by rw [zt_0 _ 3 i hi]; omega, fun j hj => absurd hj (Nat.not_lt_zero _), fun w hw hd m m1 m2 => ?_⟩
  rw [zt_0 B1 13 w (by omega)] at m2
  omega
/-- the class's soonest end is the reference's -/
theorem ls_eq {wdb : Nat → Bool} {A Y W P Sp Pl Pu B1 B2 F F2 G O ou : Nat → Int} {n hs : Nat} {p q : Int} (C : Ct9 wdb A Y W P Sp n) (h3 : hs < 3) (hPl : ∀ c, c < 13 → Pl c = su9 (fP9 wdb W P c) n) (hPu : ∀ c, c < 13 → Pu c = su9 (fQ9 wdb W P c) n) (hp : p = su9 Pl 13) (hq : q = su9 Pu 13) (hn : p + q = (n : Int)) : (if (zbB Pl Pu Sp (hs + 1) ((2 * p + 3 * q + ((hs + 1 : Nat) : Int) - 1) / ((hs + 1 : Nat) : Int)) n 0 0 (zt B1 13) (zt B2 13) (zt F2 3) (ou, 1000000000)).2 = 1000000000 then -1 else (zbB Pl Pu Sp (hs + 1) ((2 * p + 3 * q + ((hs + 1 : Nat) : Int) - 1) / ((hs + 1 : Nat) : Int)) n 0 0 (zt B1 13) (zt B2 13) (zt F2 3) (ou, 1000000000)).2) = (ls9 A Y W P n hs lF9 (-1) (id9 O 7) G F).1 := by
  have n7 := C.n7
  have P0 : ∀ c, c < 13 → 0 ≤ Pl c ∧ 0 ≤ Pu c := fun c hc => by
    rw [hPl c hc, hPu c hc]
    exact ⟨(su9_le n (fun i _ => fP_0 wdb W P c i)).2, (su9_le n (fun i _ => fQ_0 wdb W P c i)).2⟩
  have y1 := su9_le 13 (fun i q => (P0 i q).1)
  have y2 := su9_le 13 (fun i q => (P0 i q).2)
  have P7 : ∀ w, w < 13 → Pl w ≤ 7 := fun w hw => by have := y1.1 w hw; omega
  have val : ∀ (Q G2 F3 : Nat → Int), pv9 Q n → (sx9 A Y W P Q n hs n 0 G2 (zt F3 3) 0 0).1 = acO wdb W P Sp Q (hs + 1) n 0 0 0 (zt B1 13) (zt B2 13) (zt F2 3) ou := fun Q G2 F3 hQ => sx_ac C hQ h3 n 0 _ _ _ _ _ _ _ _ (by omega) sm_0
  have hind : ∀ (O G G2 F F2 : Nat → Int), pv9 O n → (sx9 A Y W P O n hs n 0 G (zt F 3) 0 0).1 = (sx9 A Y W P O n hs n 0 G2 (zt F2 3) 0 0).1 := fun O G G2 F F2 h => (val O G F h).trans (val O G2 F2 h).symm
  have small : ∀ Q, pv9 Q n → acO wdb W P Sp Q (hs + 1) n 0 0 0 (zt B1 13) (zt B2 13) (zt F2 3) ou ≤ 21 := fun Q hQ => by
    rw [← val Q (fun _ => 0) (fun _ => 0) hQ]
    refine (sx9_r h3 n 0 _ _ 0 0 (by omega) (by omega) (by omega) (by omega) (by omega) (fun i hi => by rw [zt_0 _ 3 i hi]; omega) (fun j hj => absurd hj (Nat.not_lt_zero _)) (zt_in (fun _ => by omega) 3) (fun _ => by omega)).1.2
  have fwd : ∀ Q, pv9 Q n → 0 ≤ acO wdb W P Sp Q (hs + 1) n 0 0 0 (zt B1 13) (zt B2 13) (zt F2 3) ou → ach Pl Pu Sp (hs + 1) n 0 0 (zt B1 13) (zt B2 13) (zt F2 3) ou (acO wdb W P Sp Q (hs + 1) n 0 0 0 (zt B1 13) (zt B2 13) (zt F2 3) ou) := fun Q hQ h => ac_ach hQ C.hW hPl hPu n 0 _ _ _ _ _ _ (by omega) (fun c hc => zt_0 B1 13 c hc) (fun c hc => zt_0 B2 13 c hc) h
  have bwd : ∀ v, ach Pl Pu Sp (hs + 1) n 0 0 (zt B1 13) (zt B2 13) (zt F2 3) ou v → ∃ Q, pv9 Q n ∧ acO wdb W P Sp Q (hs + 1) n 0 0 0 (zt B1 13) (zt B2 13) (zt F2 3) ou = v := fun v h => by
    obtain ⟨Q, q1, _, q3⟩ := ach_ac hPl hPu n 0 _ _ _ _ _ _ (fun _ => 0) v (by omega) (fun i j a => absurd a (Nat.not_lt_zero _)) (fun i a => absurd a (Nat.not_lt_zero _)) (fun c hc => zt_0 B1 13 c hc) (fun c hc => zt_0 B2 13 c hc) h
    exact ⟨Q, q1, q3⟩
  have idp : pv9 (id9 O 7) n := ⟨fun j hj => by rw [id9_v O 7 (by omega)]; omega, fun a b ha hb => by rw [id9_v O 7 (by omega), id9_v O 7 (by omega)]; omega⟩
  obtain ⟨L1, _, L3⟩ := ls_all n7 hind lF9 (-1) (id9 O 7) G F (pm_id O n n7) idp (by have : lF9 = 2097160 := rfl; have := vl_r (pm_id O n n7); omega) (by omega)
  have S := zbB_S (Pu := Pu) (Sp := Sp) (hn := hs + 1) (bnd := (2 * p + 3 * q + ((hs + 1 : Nat) : Int) - 1) / ((hs + 1 : Nat) : Int)) P7 n 0 0 (zt B1 13) (zt B2 13) (zt F2 3) (ou, 1000000000) (by omega) (fun w hw => by rw [zt_0 B1 13 w hw]; omega)
  have bnd : ∀ v, ach Pl Pu Sp (hs + 1) n 0 0 (zt B1 13) (zt B2 13) (zt F2 3) ou v → (2 * p + 3 * q + ((hs + 1 : Nat) : Int) - 1) / ((hs + 1 : Nat) : Int) ≤ v := by
    intro v h
    have e1 : su9 (fun w => Pl w - zt B1 13 w) 13 = su9 Pl 13 := su9_eq 13 (fun i hi => by rw [zt_0 B1 13 i hi]; omega)
    have e2 : su9 (fun w => Pu w - zt B2 13 w) 13 = su9 Pu 13 := su9_eq 13 (fun i hi => by rw [zt_0 B2 13 i hi]; omega)
    have z := ach_w (by omega) n 0 0 _ _ _ _ v (fun w hw => by rw [zt_0 B1 13 w hw, zt_0 B2 13 w hw]; exact P0 w hw) (by rw [e1, e2]; omega) (fun i hi => by rw [zt_0 F2 3 i (by omega)]; omega) h
    rw [e1, e2, su9_zt F2 (hs + 1) 3 (by omega), ← hp, ← hq] at z
    rcases (by omega : hs = 0 ∨ hs = 1 ∨ hs = 2) with c | c | c <;> subst c <;> omega
  have b30 : (2 * p + 3 * q + ((hs + 1 : Nat) : Int) - 1) / ((hs + 1 : Nat) : Int) ≤ 30 := by
    rcases (by omega : hs = 0 ∨ hs = 1 ∨ hs = 2) with c | c | c <;> subst c <;> omega
  generalize (2 * p + 3 * q + ((hs + 1 : Nat) : Int) - 1) / ((hs + 1 : Nat) : Int) = bd at S bnd b30
  generalize (zbB Pl Pu Sp (hs + 1) bd n 0 0 (zt B1 13) (zt B2 13) (zt F2 3) (ou, 1000000000)) = R at S
  generalize (ls9 A Y W P n hs lF9 (-1) (id9 O 7) G F).1 = L at L1 L3
  obtain ⟨S1, S2⟩ := S
  have S1 : R.2 = 1000000000 ∨ ach Pl Pu Sp (hs + 1) n 0 0 (zt B1 13) (zt B2 13) (zt F2 3) ou R.2 := S1
  by_cases c : R.2 = 1000000000
  · rw [if_pos c]
    rcases L1 with z | ⟨Q, q1, q2, q3⟩
    · exact z.symm
    · have e := (q3 (fun _ => 0) (fun _ => 0)).trans (val Q _ _ q1)
      have a := S2 _ (fwd Q q1 (by omega))
      have := small Q q1
      omega
  · rw [if_neg c]
    have aR := S1.resolve_left c
    obtain ⟨Q, q1, q2⟩ := bwd _ aR
    have d := ach_dn n _ _ _ _ _ _ _ aR
    have e := val Q (fun _ => 0) (fun _ => 0) q1
    have l := L3 Q (fun _ => 0) (fun _ => 0) q1 (id_first n7 q1) (by rw [e, q2]; exact d)
    rw [e, q2] at l
    rcases L1 with z | ⟨Q2, r1, r2, r3⟩
    · omega
    · have e2 := (r3 (fun _ => 0) (fun _ => 0)).trans (val Q2 _ _ r1)
      have aL := fwd Q2 r1 (by omega)
      rw [← e2] at aL
      have := bnd L aL
      have := S2 L aL
      omega
