/-! adding a new object to one of the class's lists -/
theorem cw_fold {ar : Nat → ClassId} {b : Nat} {τ' : Nat → Nat → Int} {w' : zcW} (h : ∀ (j : Nat) (x : va_E), gcell ar b (τ' j) j = some x → w' (b + j) = some x) : cw ar b τ' w' = w' := by
  funext a
  unfold cw
  by_cases c : a < b
  · rw [if_pos c]
  · rw [if_neg c]
    cases g : gcell ar b (τ' (a - b)) (a - b) with
    | none => rfl
    | some x =>
      have := h (a - b) x g
      rw [show b + (a - b) = a by omega] at this
      exact this.symm
def lv9 (m e s : Int) : Nat → Int := fun k => if k = 0 then m else if k = 1 then e else s
/-- what a list of the class holds, against its cell -/
def lsq9 (ar : Nat → ClassId) (b : Nat) (w0 : zcW) (n e0 : Nat) (t : Nat → Int) : Prop := (t 1 = (e0 : Int) ∧ t 2 = 0) ∨ ∃ (e9 N : Nat) (f : Nat → Option Nat), t 1 = (e9 : Int) ∧ nf9 b e9 ∧ e9 < n ∧ e9 ≠ e0 ∧ w0 e9 = some (.inl (ar 2, N, .inr (.inr (.inr (.inr f))))) ∧ 0 ≤ t 2 ∧ t 2 ≤ (N : Int) ∧ 0 < N ∧ N ≤ 60 ∧ ∀ i : Nat, (i : Int) < t 2 → ∀ y, f i = some y → okE w0 y ∧ nf9 b y
/-- after adding -/
def adP (ar : Nat → ClassId) (b : Nat) (τ : Nat → Nat → Int) (w0 : zcW) (n e0 j sz : Nat) (X : va_E) (e9 N9 : Nat) (f9 : Nat → Option Nat) (w9 : zcW) (n9 : Nat) : Prop :=
  w9 e9 = some (.inl (ar 2, N9, .inr (.inr (.inr (.inr f9))))) ∧ sz < N9 ∧ N9 ≤ 60 ∧ f9 sz = some n ∧ (∀ (i p : Nat), i < sz → it9q ar b w0 (τ j) i p → f9 i = some p) ∧ nf9 b e9 ∧ e9 ≠ e0 ∧ e9 ≠ n ∧ ((τ j 1 = (e9 : Int) ∧ e9 < n ∧ n9 = n + 1) ∨ (e9 = n + 1 ∧ n9 = n + 2)) ∧ w9 n = some X ∧ ∀ a, nf9 b a → a ≠ e9 → a ≠ n → w9 a = w0 a
def isL (ar : Nat → ClassId) (b j : Nat) : Prop := j < 19 ∧ ∀ t : Nat → Int, gcell ar b t j = some (.inr (0, [.int (iz (t 0)), va_rf (rfv (t 1)), .int (iz (t 2))]))
section ZLA
variable {p : Program} {l : Launch} {e : Env} {R : Room} {s : State} {m : MethodId} {args : Array Value} {below : List Frame} {meth : Method} {c : Code} {nL : Nat} {Q : State → Prop} {pc : Nat} {loc : List (Nat × Value)} {cc : ByteArray} {D : va_G} {ar : Nat → ClassId} {B : Nat → Prop} {b n : Nat} {w0 : zcW} {τ : Nat → Nat → Int} {own : String} {cells slots : Nat} {o : olP}
theorem zl_add (j sz : Nat) {ci idx : Nat} {fs rest : List Value} {xr q9 : vw_C} (C : CallFix p m c cc nL s args hk_tb own) (K : clK D ar s) (O : olk B o s) (hj : isL ar b j) (hI : lsq9 ar b w0 n o.2.1 (τ j)) (hz : τ j 2 = (sz : Int)) (h39 : sz ≤ 39) (hn : b + 47 ≤ n) (he0 : o.2.1 < b) (hB : ∀ q, B q → b ≤ q) (hfree : ∀ a, n ≤ a → w0 a = none) (hxc : vwCl[ci]? = some xr) (hxk : (xr.1, "java/lang/Object") ∈ nwC) (hq9 : vwCl[0]? = some q9) (ck : zcV own q9.1 yJx4a65c_add_9ea2d cJx4a65c_add_9ea2d 2 (some .boolean) idx 1) (hR : 7 ≤ R.frames ∧ 261 ≤ R.locals) (hf : cells + 1 ≤ R.cells ∧ slots + 60 ≤ R.slots) (hW : (rest.map fun v => v.category).sum ≤ 8) (d : decode cc pc = .ok (.invokevirtual idx, 3)) (k : ∀ (e9 N9 : Nat) (f9 : Nat → Option Nat) (m9 : Int) (w9 : zcW) (n9 : Nat), adP ar b τ w0 n o.2.1 j sz (.inr (ci, fs)) e9 N9 f9 w9 n9 → hvV p l e R s m args below meth c nL B (cells + 1) (slots + 60) Q (zc_I D B (cw ar b (sA τ j (lv9 m9 (e9 : Int) ((sz : Int) + 1))) w9) n9 s.heap) (pc + 3) loc (.int (iz 1) :: rest)) : hvV p l e R s m args below meth c nL B cells slots Q (zc_I D B (zc_u (cw ar b τ w0) n (.inr (ci, fs))) (n + 1) s.heap) pc loc (.ref n :: .ref (b + j) :: rest) := by
  obtain ⟨j19, hj⟩ := hj
  have nfn : ∀ a, n ≤ a → nf9 b a := fun a h => Or.inr (Or.inr (by omega))
  have cwn : ∀ a, n ≤ a → cw ar b τ w0 a = none := fun a h => by rw [cw_nf (nfn a h)]; exact hfree a h
  -- the list's array
  obtain ⟨ee, g9, he, hL, hlt, hit⟩ : ∃ (ee : Nat) (g9 : Nat → Option Nat), τ j 1 = (ee : Int) ∧ lsB ar (zc_u (cw ar b τ w0) n (.inr (ci, fs))) (n + 1) o.2.1 (b + j) ee sz g9 ∧ (ee < n ∧ nf9 b ee ∧ (ee = o.2.1 → sz = 0)) ∧ ∀ (i p : Nat), i < sz → it9q ar b w0 (τ j) i p → g9 i = some p := by
    rcases hI with ⟨h1, h2⟩ | ⟨e8, N, f, h1, h2, h3, h4, h5, h6, h7, h8, h9, h10⟩
    · exact ⟨o.2.1, fun _ => none, h1, Or.inl ⟨rfl, by omega⟩, ⟨by omega, Or.inl he0, fun _ => by omega⟩, fun i p a => by omega⟩
    · refine ⟨e8, f, h1, Or.inr ⟨by omega, fun z => ?_, h4, N, ?_, by omega, h8, h9, fun i hi y hy => ?_⟩, ⟨h3, h2, fun z => absurd z h4⟩, fun i p hi ht => ?_⟩
      · unfold nf9 at h2; omega
      · exact zg_ne (by omega) ((cw_nf h2).trans h5)
      · have := h10 i (by omega) y hy
        refine ⟨okE_u ?_ (fun z => ?_), fun z => ?_⟩
        · obtain ⟨c1, c2, c3, c4, c5, c6⟩ := this.1
          exact ⟨c1, c2, c3, (cw_nf this.2).trans c4, c5, c6⟩
        · obtain ⟨c1, c2, c3, c4, c5, c6⟩ := this.1
          rw [z, hfree n (Nat.le_refl _)] at c4
          exact absurd c4 (by simp)
        · have := this.2; unfold nf9 at this; omega
      · obtain ⟨e7, N7, f7, t1, t2, t3, t4, t5, t6, t7, t8⟩ := ht
        have ee : e7 = e8 := by omega
        subst ee
        rw [h5] at t3
        have t3 := Option.some.inj t3
        injection t3 with t3
        injection t3 with t31 t32
        injection t32 with t33 t34
        injection t34 with t35
        injection t35 with t36
        injection t36 with t37
        injection t37 with t38
        rw [t38]; exact t6
  have hwq : zc_u (cw ar b τ w0) n (.inr (ci, fs)) (b + j) = some (.inr (0, [.int (iz (τ j 0)), .ref ee, .int (iz ((sz : Nat) : Int))])) := by
    refine zg_ne (by omega) ((cw_at j (hj (τ j))).trans ?_)
    rw [he, rfv_n, hz]; rfl
  refine zo_callV [.ref n] rest C K O hwq hq9 (g_add l (g := g9) (ee := ee) (sz := sz) (by omega) (τ j 0) hwq hL h39 (zg_ne (by omega) (cwn (n + 1) (by omega))) (by omega) zg_at hxc (Or.inl hxk) (by omega) (by omega)) ck ⟨by omega, by omega⟩ hf rfl hW d ?_
  rintro r' w' n' ⟨h1, e9, N9, f9, m9, a1, a2, a3, a4, a5, a6, a7, a8⟩
  subst h1
  have nfe : nf9 b e9 ∧ e9 ≠ n := by
    rcases a7 with ⟨z, _, _⟩ | ⟨z, _⟩
    · subst z; exact ⟨hlt.2.1, by omega⟩
    · exact ⟨nfn e9 (by omega), by omega⟩
  have fold : cw ar b (sA τ j (lv9 m9 (e9 : Int) ((sz : Int) + 1))) w' = w' := by
    refine cw_fold (fun i x hx => ?_)
    by_cases c : i = j
    · subst c
      rw [sA_at, hj, show lv9 m9 (e9 : Int) ((sz : Int) + 1) 1 = (e9 : Int) from rfl, rfv_n] at hx
      rw [a1, ← hx]; rfl
    · rw [sA_ne _ _ c] at hx
      have i47 : ¬ ((19 ≤ i ∧ i < 23) ∨ 47 ≤ i) := fun z => by rw [gcell_none ar b _ z] at hx; exact absurd hx (by simp)
      rw [a8 (b + i) (by omega) (fun z => by have := nfe.1; unfold nf9 at this; omega)]
      exact zg_ne (by omega) (cw_at i hx)
  refine fun H locs ls z1 z2 z3 => ?_
  have b9 := hB e9 (z1.2.2.1.1 e9 _ a2)
  have := k e9 N9 f9 m9 w' n' ⟨a2, a3, a4, a5, fun i p hi ht => (a6 i hi).trans (hit i p hi ht), nfe.1, by omega, nfe.2, (by
    rcases a7 with ⟨z, z2, z3⟩ | ⟨z, z2⟩
    · exact Or.inl ⟨by rw [z]; exact he, by omega, z2⟩
    · exact Or.inr ⟨z, z2⟩), (a8 n (by omega) (fun z => nfe.2 z.symm)).trans zg_at, fun a h1 h2 h3 => (a8 a (by unfold nf9 at h1; omega) h2).trans (zg_ne h3 (cw_nf h1))⟩
  rw [fold] at this
  exact this H locs ls z1 z2 z3
end ZLA
