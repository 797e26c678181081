def cpy9 (f g : Nat → Int) (n : Nat) : Nat → Int := fun q => if q < n then f q else g q
theorem cw_setA {ar : Nat → ClassId} {b : Nat} {τ : Nat → Nat → Int} {w0 : zcW} (j : Nat) (F : Nat → Int) {X : va_E} (h : gcell ar b F j = some X) : zc_u (cw ar b τ w0) (b + j) X = cw ar b (sA τ j F) w0 := by
  funext q
  unfold zc_u
  by_cases e : q = b + j
  · subst e
    rw [if_pos rfl]
    exact (cw_at (τ := sA τ j F) j (by rw [sA_at]; exact h)).symm
  · rw [if_neg e]
    unfold cw
    by_cases z : q < b
    · rw [if_pos z, if_pos z]
    · rw [if_neg z, if_neg z, sA_ne _ _ (by omega)]
theorem ac_nat : Cond.native arraycopyName ∈ hk_tb := hk_tq2 192 (by decide +kernel) (by decide +kernel)
theorem ac_st : Cond.static arraycopyName ∈ hk_tb := hk_tq2 191 (by decide +kernel) (by decide +kernel)
theorem ac_in : Cond.initialized "java/lang/System" ∈ hk_tb := hk_tq1 16 (by decide +kernel) (by decide +kernel)
section CPI
variable {p : Program} {l : Launch} {e : Env} {R : Room} {s : State} {m : MethodId} {args : Array Value} {below : List Frame} {meth : Method} {c : Code} {nL : Nat} {Q : State → Prop} {pc : Nat} {loc : List (Nat × Value)} {stk : List Value} {cc : ByteArray} {D : va_G} {ar : Nat → ClassId} {B : Nat → Prop} {w : zcW} {n : Nat} {H0 : Heap} {own : String} {cells slots : Nat}
theorem zc_cpi (C : CallFix p m c cc nL s args hk_tb own) (K : clK D ar s) {a0 a n0 n1 idx : Nat} {f g : Nat → Int} {cA : ClassId} {ty : FieldType} {w2 : zcW} {z9 : Int} (t N : Nat) (hz9 : z9 = (N : Int)) (hw0 : w a0 = some (.inl (cA, n0, .inl (fun q => iz (f q))))) (hw1 : w a = some (.inl (cA, n1, .inl (fun q => iz (g q))))) (ht : (clT ar)[t]? = some (cA, ty)) (hprim : refKind ty = false) (hn0 : N ≤ n0) (hn1 : N ≤ n1) (hN : N ≤ 2147483647) (hfit : ∀ i, i < N → fits ty (.int (iz (f i))) = true) (h9 : zc_u w a (.inl (cA, n1, .inl (fun q => iz (cpy9 f g N q)))) = w2) (hl : Cond.methodLink own idx arraycopyName ∈ hk_tb) (hfr : 1 ≤ R.frames) (hlo : (stk.map fun v => v.category).sum + 18 ≤ R.locals) (d : decode cc pc = .ok (.invokestatic idx, 3)) (k : hvV p l e R s m args below meth c nL B cells slots Q (zc_I D B w2 n H0) (pc + 3) loc stk) : hvV p l e R s m args below meth c nL B cells slots Q (zc_I D B w n H0) pc loc (.int (iz z9) :: .int (iz 0) :: .ref a :: .int (iz 0) :: .ref a0 :: stk) := by
  subst h9
  subst hz9
  intro H locs ls h1 h2 h3 T hT X
  have z0 : (iz 0).toNatClampNeg = 0 := iz_clamp (by omega) (by omega)
  have zN : (iz (N : Int)).toNatClampNeg = N := by rw [iz_clamp (by omega) (by omega)]; omega
  have i0 : (iz 0).toInt = 0 := iz_toInt ⟨by omega, by omega⟩
  have iN : (iz (N : Int)).toInt = (N : Int) := iz_toInt ⟨by omega, by omega⟩
  have ng0 : ¬ iz 0 < 0 := by decide
  have ngN : ¬ iz (N : Int) < 0 := by
    intro q
    have q2 := Int32.lt_iff_toInt_lt.mp q
    rw [iN] at q2
    have : (0 : Int32).toInt = 0 := rfl
    omega
  have hc0 : H[a0]? = some (vp_cell cA (n0, .inl (fun q => iz (f q)))) := h1.1 a0 _ hw0
  have hc1 : H[a]? = some (vp_cell cA (n1, .inl (fun q => iz (g q)))) := h1.1 a _ hw1
  obtain ⟨-, k0, hk0, cm0, hkk0⟩ := (K.1.2 t _ ht).1 n0 (fun j => .int (iz (f j)))
  obtain ⟨-, k1, hk1, cm1, hkk1⟩ := (K.1.2 t _ ht).1 n1 (fun j => .int (iz (g j)))
  obtain ⟨vm', X', step⟩ := X.arraycopy C.1 C.2.2.2.1 (C.2.2.2.2 _ hl) (C.2.2.2.2 _ ac_nat) (C.2.2.2.2 _ ac_st) (C.2.2.2.2 _ ac_in) (src := a0) (dst := a) (cs := vp_cell cA (n0, .inl (fun q => iz (f q)))) (cd := vp_cell cA (n1, .inl (fun q => iz (g q)))) (srcPos := iz 0) (destPos := iz 0) (n := iz (N : Int)) (by rw [hT]; exact hc0) (by rw [hT]; exact hc1)
    (fun _ h => by cases h) (fun _ h => by cases h) (fun h => by cases h) (fun h => by cases h) hk0 hk1 hkk0 hkk1 (by simp [hprim]) ng0 ng0 ngN
    (by rw [i0, iN]; show ¬ _ > ((arrV cA n0 (fun j => .int (iz (f j)))).slots.size : Int); rw [arrV_size]; omega)
    (by rw [i0, iN]; show ¬ _ > ((arrV cA n1 (fun j => .int (iz (g j)))).slots.size : Int); rw [arrV_size]; omega)
    (fun vm₁ _ i hi => by
      rw [zN] at hi
      have e : (vp_cell cA (n0, .inl (fun q => iz (f q)))).slots.getD ((iz 0).toNatClampNeg + i) .null = .int (iz (f i)) := by
        show (arrV cA n0 (fun j => .int (iz (f j)))).slots.getD _ _ = _
        rw [z0, Nat.zero_add, Array.getD_eq_getD_getElem?, arrV_read _ _ (by omega)]
        rfl
      refine ⟨?_, ?_⟩
      · rw [e]
        exact hfit i hi
      · rw [e]
        exact trivial)
    (g := F0 m pc ls (.int (iz (N : Int)) :: .int (iz 0) :: .ref a :: .int (iz 0) :: .ref a0 :: stk)) rfl (by rw [C.2.2.1]; exact h3.1) (rest := stk) rfl (by rw [C.2.1]; exact d) hfr (by show 2 * 0 + _ + (7 + 11) ≤ _; omega)
  have e1 : copied (vp_cell cA (n0, .inl (fun q => iz (f q)))) (vp_cell cA (n1, .inl (fun q => iz (g q)))) (iz 0) (iz 0) (iz (N : Int)) = vp_cell cA (n1, .inl (fun q => iz (cpy9 f g N q))) := by
    have h4 : (iz 0).toNatClampNeg + (iz (N : Int)).toNatClampNeg ≤ n0 := by rw [z0, zN]; omega
    have e0 : copied (vp_cell cA (n0, .inl (fun q => iz (f q)))) (vp_cell cA (n1, .inl (fun q => iz (g q)))) (iz 0) (iz 0) (iz (N : Int)) = vp_cell cA (n1, .inl (va_cpy (fun q => iz (f q)) (fun q => iz (g q)) (iz 0).toNatClampNeg (iz 0).toNatClampNeg (iz (N : Int)).toNatClampNeg)) := va_copied (fun z => .int z) cA cA (fun q => iz (f q)) (fun q => iz (g q)) h4
    rw [e0, z0, zN]
    congr 2
    congr 1
    funext q
    simp only [va_cpy, cpy9]
    by_cases h : q < N
    · rw [if_pos (by omega), if_pos h]; congr 2; omega
    · rw [if_neg (by omega), if_neg h]
  rw [e1] at X' step
  have hl2 : a < H.size := (Array.getElem?_eq_some_iff.mp hc1).1
  have hheap : ((T.setVm vm').setCell a (vp_cell cA (n1, .inl (fun q => iz (cpy9 f g N q))))).heap = H.setIfInBounds a (vp_cell cA (n1, .inl (fun q => iz (cpy9 f g N q)))) := by rw [← hT]; rfl
  have oq : ∀ q : Nat, q ≠ a → (H.setIfInBounds a (vp_cell cA (n1, .inl (fun q => iz (cpy9 f g N q)))))[q]? = H[q]? := fun q hq => by simp [Array.getElem?_setIfInBounds, Ne.symm hq]
  obtain ⟨t2, a1, b1⟩ := k _ _ ls (h1.set hw1 (show (H.setIfInBounds a _)[a]? = some _ by simp [Array.getElem?_setIfInBounds, hl2]) (by simp) oq) (fun x hx => by
      rcases List.mem_append.mp hx with h | h
      · exact h2 x h
      · obtain ⟨z, -, hz⟩ := List.mem_map.mp h
        rw [← hz]
        exact h1.2.2.1.1 a _ hw1) h3 _ hheap X'
  exact ⟨t2, step t2 a1, b1⟩
end CPI

