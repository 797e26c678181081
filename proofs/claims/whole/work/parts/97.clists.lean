theorem ck_X8_97 : zcV RX8 RJx4a65c yJx4a65c_clear_da8c8 cJx4a65c_clear_da8c8 4 none 97 0 := ⟨hk_tq5 105 (by decide +kernel) (by decide +kernel), hk_tq5 102 (by decide +kernel) (by decide +kernel), hk_tq1 5 (by decide +kernel) (by decide +kernel), ⟨by decide, by decide, by decide +kernel⟩, hk_tq5 103 (by decide +kernel) (by decide +kernel), hk_tq5 104 (by decide +kernel) (by decide +kernel)⟩
theorem ck_X8_110 : zcV RX8 RJx4a65c yJx4a65c_add_9ea2d cJx4a65c_add_9ea2d 2 (some .boolean) 110 1 := ⟨hk_tq2 137 (by decide +kernel) (by decide +kernel), hk_tq5 107 (by decide +kernel) (by decide +kernel), hk_tq1 5 (by decide +kernel) (by decide +kernel), ⟨by decide, by decide, by decide +kernel⟩, hk_tq2 135 (by decide +kernel) (by decide +kernel), hk_tq2 136 (by decide +kernel) (by decide +kernel)⟩
theorem cl_X8_108 : Cond.classLink RX8 108 RX9 ∈ hk_tb := hk_tq5 106 (by decide +kernel) (by decide +kernel)
/-! Told.takeLists: one list: clear, then add each item of another list -/
def tlD (cc : ByteArray) (q0 idx idc : Nat) : Prop :=
  decode cc q0 = .ok (.aload_n 0, 1) ∧ decode cc (q0 + 1) = .ok (.getfield idx, 3) ∧ decode cc (q0 + 4) = .ok (.invokevirtual 97, 3) ∧ decode cc (q0 + 7) = .ok (.iconst 0, 1) ∧ decode cc (q0 + 8) = .ok (.istore_n 2, 1) ∧ decode cc (q0 + 9) = .ok (.iload_n 2, 1) ∧ decode cc (q0 + 10) = .ok (.aload_n 1, 1) ∧ decode cc (q0 + 11) = .ok (.getfield idx, 3) ∧ decode cc (q0 + 14) = .ok (.invokevirtual 100, 3) ∧ decode cc (q0 + 17) = .ok (.if_icmp .ge 28, 3) ∧ decode cc (q0 + 20) = .ok (.aload_n 0, 1) ∧ decode cc (q0 + 21) = .ok (.getfield idx, 3) ∧ decode cc (q0 + 24) = .ok (.aload_n 1, 1) ∧ decode cc (q0 + 25) = .ok (.getfield idx, 3) ∧ decode cc (q0 + 28) = .ok (.iload_n 2, 1) ∧ decode cc (q0 + 29) = .ok (.invokevirtual 104, 3) ∧ decode cc (q0 + 32) = .ok (.checkcast idc, 3) ∧ decode cc (q0 + 35) = .ok (.invokevirtual 110, 3) ∧ decode cc (q0 + 38) = .ok (.pop, 1) ∧ decode cc (q0 + 39) = .ok (.iinc 2 1, 3) ∧ decode cc (q0 + 42) = .ok (.goto (-33), 3)
/-- what one list and the rest are afterwards -/
def tlo9 (ar : Nat → ClassId) (w : zcW) (n e0 q ee k : Nat) (P : Nat → Nat) (w9 : zcW) (n9 : Nat) (m9 : Int) (e9 : Nat) (g9 : Nat → Option Nat) : Prop :=
  w9 q = some (.inr (0, [.int (iz m9), .ref e9, .int (iz ((k : Nat) : Int))])) ∧ lsB ar w9 n9 e0 q e9 k g9 ∧ (∀ i, i < k → g9 i = some (P i)) ∧ (∀ a, a < n → a ≠ q → a ≠ ee → w9 a = w a) ∧ (∀ a, n9 ≤ a → w9 a = none) ∧ n ≤ n9 ∧ n9 ≤ n + k ∧ (e9 = ee ∨ n ≤ e9)
/-- a list's array, as far as clearing needs it -/
def lsZ (ar : Nat → ClassId) (w : zcW) (n e0 q e sz : Nat) : Prop := (e = e0 ∧ sz = 0) ∨ (e < n ∧ q ≠ e ∧ e ≠ e0 ∧ ∃ (N : Nat) (g : Nat → Option Nat), w e = some (.inl (ar 2, N, .inr (.inr (.inr (.inr g))))) ∧ sz ≤ N ∧ 0 < N ∧ N ≤ 60)
section TLO
variable {p : Program} {l : Launch} {e : Env} {R : Room} {s : State} {m : MethodId} {args : Array Value} {below : List Frame} {meth : Method} {c : Code} {nL : Nat} {Q : State → Prop} {loc : List (Nat × Value)} {cc : ByteArray} {D : va_G} {ar : Nat → ClassId} {B : Nat → Prop} {n : Nat} {w : zcW} {cells slots : Nat} {o : olP}
set_option maxRecDepth 100000 in
set_option maxHeartbeats 4000000 in
theorem tl_one {q0 idx idc X Y f q r ee sz0 es sz M ci : Nat} {vx vy : List Value} {m0 m1 : Int} {P : Nat → Nat} {vs : Nat → List Value} {xr : vw_C} (C : CallFix p m c cc nL s args hk_tb RX8) (K : clK D ar s) (O : olk B o s) (d : tlD cc q0 idx idc) (hnL : 2 < nL)
    (hX : w X = some (.inr (9, vx))) (hY : w Y = some (.inr (9, vy))) (hf : f < 20) (hvx : vx[f]? = some (.ref q)) (hvy : vy[f]? = some (.ref r)) (hfl : Cond.fieldLink RX8 idx "HookUps$Told" (TX8 f).2.1 (TX8 f).2.2.1 ∈ hk_tb) (hT1 : (TX8 f).1 = "HookUps$Told")
    (hq : q < n) (hXn : X < n ∧ Y < n ∧ r < n) (hwq : w q = some (.inr (0, [.int (iz m0), .ref ee, .int (iz ((sz0 : Nat) : Int))]))) (hL : lsZ ar w n o.2.1 q ee sz0)
    (hwr : w r = some (.inr (0, [.int (iz m1), .ref es, .int (iz ((sz : Nat) : Int))]))) (hS : sz = 0 ∨ ∃ (N1 : Nat) (f1 : Nat → Option Nat), es < n ∧ w es = some (.inl (ar 2, N1, .inr (.inr (.inr (.inr f1))))) ∧ sz ≤ N1 ∧ N1 ≤ 60 ∧ ∀ i, i < sz → f1 i = some (P i)) (hP : ∀ i, i < sz → P i < n ∧ w (P i) = some (.inr (ci, vs i)) ∧ P i ≠ q ∧ P i ≠ ee)
    (hM : sz ≤ M ∧ M ≤ 40) (hfree : ∀ a, n ≤ a → w a = none) (hB : ∀ a, B a → o.2.1 < a) (hne : X ≠ q ∧ Y ≠ q ∧ r ≠ q ∧ es ≠ q ∧ X ≠ ee ∧ Y ≠ ee ∧ r ≠ ee ∧ (es ≠ o.2.1 → es ≠ ee)) (hes : sz = 0 ∨ es ≠ o.2.1)
    (hxc : vwCl[ci]? = some xr) (hxk : (xr.1, "java/lang/Object") ∈ nwC) (hcl : Cond.classLink RX8 idc xr.1 ∈ hk_tb)
    (ck1 : zcV RX8 RJx4a65c yJx4a65c_clear_da8c8 cJx4a65c_clear_da8c8 4 none 97 0) (ck2 : zcV RX8 RJx4a65c yJx4a65c_size_8abf5 cJx4a65c_size_8abf5 1 (some .int) 100 0) (ck3 : zcV RX8 RJx4a65c yJx4a65c_get_915e3 cJx4a65c_get_915e3 2 (some (.object "java/lang/Object")) 104 1) (ck4 : zcV RX8 RJx4a65c yJx4a65c_add_9ea2d cJx4a65c_add_9ea2d 2 (some .boolean) 110 1)
    (hR : 7 ≤ R.frames ∧ 261 ≤ R.locals) (hfc : cells + M ≤ R.cells ∧ slots + 60 * M ≤ R.slots)
    (k : ∀ (w9 : zcW) (n9 : Nat) (m9 : Int) (e9 : Nat) (g9 : Nat → Option Nat), tlo9 ar w n o.2.1 q ee sz P w9 n9 m9 e9 g9 → hvV p l e R s m args below meth c nL B (cells + M) (slots + 60 * M) Q (zc_I D B w9 n9 s.heap) (q0 + 45) [(0, .ref X), (1, .ref Y)] []) :
    hvV p l e R s m args below meth c nL B cells slots Q (zc_I D B w n s.heap) q0 [(0, .ref X), (1, .ref Y)] [] := by
  obtain ⟨d0, d1, d4, d7, d8, d9, d10, d11, d14, d17, d20, d21, d24, d25, d28, d29, d32, d35, d38, d39, d42⟩ := d
  have hu9 : (TX8 f).1 = "HookUps$Told" := hT1
  -- the loop
  have L9 : ∀ (fu k9 : Nat), sz - k9 < fu → k9 ≤ sz → ∀ (w9 : zcW) (n9 : Nat) (m9 : Int) (e9 : Nat) (g9 : Nat → Option Nat), tlo9 ar w n o.2.1 q ee k9 P w9 n9 m9 e9 g9 → hvV p l e R s m args below meth c nL B (cells + k9) (slots + 60 * k9) Q (zc_I D B w9 n9 s.heap) (q0 + 9) [(2, .int (iz ((k9 : Nat) : Int))), (0, .ref X), (1, .ref Y)] [] := by
    intro fu
    induction fu with
    | zero => intro k9 hm; exact absurd hm (Nat.not_lt_zero _)
    | succ fu ih =>
      intro k9 hm hk9 w9 n9 m9 e9 g9 hI
      have hI0 := hI
      obtain ⟨a1, a2, a3, a4, a5, a6, a7, a8⟩ := hI
      have wX := (a4 X (by omega) (by omega) (by omega)).trans hX
      have wY := (a4 Y (by omega) (by omega) (by omega)).trans hY
      have wr := (a4 r (by omega) (by omega) (by omega)).trans hwr
      refine hv_iload_n C 2 0 d9 rfl rfl ?_
      refine hv_aload_n C 1 2 d10 rfl rfl ?_
      refine zc_get C K (v := .ref r) f rfl hu_9 hf wY hvy hfl hu9 d11 ?_
      refine zg_callV [] [.int (iz ((k9 : Nat) : Int))] C K wr rfl (g_size l wr) ck2 ⟨by omega, by omega⟩ ⟨by omega, by omega⟩ rfl (Nat.le_of_ble_eq_true rfl) d14 (fun r' w' n' h => h) ?_
      refine hv_icmp_ge C (q0 + 45) d17 (by omega) (by omega) (by omega) (fun h17 => ?_) (fun h17 => ?_)
      · have e8 : k9 = sz := by omega
        subst e8
        refine hv_loc [1, 2] [(0, .ref X), (1, .ref Y)] rfl ?_
        refine hv_widen (cells + M) (slots + 60 * M) (by omega) (by omega) ?_
        exact k w9 n9 m9 e9 g9 hI0
      · obtain ⟨N1, f1, s1, s2, s3, s4, s5⟩ := hS.resolve_left (by omega)
        have hes' := hes.resolve_left (by omega)
        have wes := (a4 es s1 hne.2.2.2.1 (hne.2.2.2.2.2.2.2 hes')).trans s2
        obtain ⟨p1, p2, p3, p4⟩ := hP k9 (by omega)
        have wp := (a4 (P k9) p1 p3 p4).trans p2
        refine hv_aload_n C 0 1 d20 rfl rfl ?_
        refine zc_get C K (v := .ref q) f rfl hu_9 hf wX hvx hfl hu9 d21 ?_
        refine hv_aload_n C 1 2 d24 rfl rfl ?_
        refine zc_get C K (v := .ref r) f rfl hu_9 hf wY hvy hfl hu9 d25 ?_
        refine hv_iload_n C 2 0 d28 rfl rfl ?_
        refine zg_callV [.int (iz ((k9 : Nat) : Int))] [.ref q] C K wr rfl (g_getl l k9 wr wes ⟨by omega, s3, s4⟩ (s5 k9 (by omega))) ck3 ⟨by omega, by omega⟩ ⟨by omega, by omega⟩ rfl (Nat.le_of_ble_eq_true rfl) d29 (fun r' w' n' h => h) ?_
        refine zc_cast C K wp hxc hcl d32 ?_
        refine zo_callV [.ref (P k9)] [] C K O a1 rfl (g_add l (o := o) (by omega) m9 a1 a2 (by omega) (a5 n9 (Nat.le_refl _)) (by omega) wp hxc (Or.inl hxk) p3 (by rcases a8 with z | z <;> omega)) ck4 ⟨by omega, by omega⟩ ⟨by omega, by omega⟩ rfl (Nat.le_of_ble_eq_true rfl) d35 ?_
        rintro r' w' n' ⟨h1, e8, N8, f8, m8, b1, b2, b3, b4, b5, b6, b7, b8⟩
        subst h1
        refine fun H locs ls z1 z2 z3 => ?_
        have b9 := hB e8 (z1.2.2.1.1 e8 _ b2)
        have e8q : q ≠ e8 := by
          intro z
          rw [← z, b1] at b2
          exact absurd b2 (by simp)
        have fr : ∀ a, a < n → a ≠ q → a ≠ ee → w' a = w a := fun a h1 h2 h3 => (b8 a h2 (by rcases a8 with z | z <;> rcases b7 with ⟨y, _⟩ | ⟨y, _⟩ <;> omega)).trans (a4 a h1 h2 h3)
        have hI2 : tlo9 ar w n o.2.1 q ee (k9 + 1) P w' n' m8 e8 f8 := by
          refine ⟨b1, Or.inr ⟨by rcases b7 with ⟨y, _⟩ | ⟨y, _⟩ <;> omega, e8q, by omega, N8, b2, by omega, by omega, b4, fun i hi y hy => ?_⟩, fun i hi => ?_, fr, fun a ha => ?_, by rcases b7 with ⟨y, _⟩ | ⟨y, _⟩ <;> omega, by rcases b7 with ⟨y, _⟩ | ⟨y, _⟩ <;> omega, by rcases a8 with z | z <;> rcases b7 with ⟨y, _⟩ | ⟨y, _⟩ <;> omega⟩
          · have ey : y = P i := by
              by_cases c : i = k9
              · subst c; rw [b5] at hy; exact (Option.some.inj hy).symm
              · rw [b6 i (by omega), a3 i (by omega)] at hy; exact (Option.some.inj hy).symm
            subst ey
            obtain ⟨t1, t2, t3, t4⟩ := hP i (by omega)
            exact ⟨⟨ci, xr, vs i, (fr _ t1 t3 t4).trans t2, hxc, hxk⟩, t3⟩
          · by_cases c : i = k9
            · subst c; exact b5
            · rw [b6 i (by omega)]; exact a3 i (by omega)
          · exact (b8 a (by omega) (by rcases b7 with ⟨y, _⟩ | ⟨y, _⟩ <;> omega)).trans (a5 a (by rcases b7 with ⟨y, _⟩ | ⟨y, _⟩ <;> omega))
        refine (?_ : hvV p l e R s m args below meth c nL B (cells + k9 + 1) (slots + 60 * k9 + 60) Q (zc_I D B w' n' s.heap) (q0 + 35 + 3) [(2, .int (iz ((k9 : Nat) : Int))), (0, .ref X), (1, .ref Y)] [.int (iz 1)]) H locs ls z1 z2 z3
        refine hv_pop C d38 rfl ?_
        refine hv_iinc C 2 0 [(2, .int (iz (((k9 : Nat) : Int) + 1))), (0, .ref X), (1, .ref Y)] d39 rfl hnL rfl ?_
        refine hv_goto C (q0 + 9) d42 (by omega) ?_
        exact ih (k9 + 1) (by omega) (by omega) w' n' m8 e8 f8 hI2
  refine hv_aload_n C 0 0 d0 rfl rfl ?_
  refine zc_get C K (v := .ref q) f rfl hu_9 hf hX hvx hfl hu9 d1 ?_
  have T9 : ∀ (w9 : zcW) (m9 : Int) (g9 : Nat → Option Nat), tlo9 ar w n o.2.1 q ee 0 P w9 n m9 ee g9 → hvV p l e R s m args below meth c nL B cells slots Q (zc_I D B w9 n s.heap) (q0 + 4 + 3) [(0, .ref X), (1, .ref Y)] [] := by
    intro w9 m9 g9 h
    refine hv_iconst C d7 ?_
    refine hv_istore_n C 2 [(2, .int (iz 0)), (0, .ref X), (1, .ref Y)] d8 rfl hnL rfl ?_
    exact L9 (sz + 1) 0 (by omega) (Nat.zero_le _) w9 n m9 ee g9 h
  rcases hL with ⟨h1, h2⟩ | ⟨h1, h2, h3, N, g, h4, h5, h6, h7⟩
  · subst h2
    refine zc_callV [] [] C K hwq rfl (g_clearE l hq m0 hwq) ck1 ⟨by omega, by omega⟩ ⟨by omega, by omega⟩ rfl (Nat.le_of_ble_eq_true rfl) d4 ?_
    rintro r' w' n' ⟨c1, c2, c3⟩
    subst c1; subst c2; subst c3
    refine T9 _ (m0 + 1) (fun _ => none) ⟨zg_at, Or.inl ⟨h1, rfl⟩, fun i hi => absurd hi (Nat.not_lt_zero _), fun a _ z2 _ => if_neg z2, fun a ha => (if_neg (by omega)).trans (hfree a ha), Nat.le_refl _, Nat.le_refl _, Or.inl rfl⟩
  · refine zc_callV [] [] C K hwq rfl (g_clearA l hq m0 hwq h4 h2 ⟨h5, h7⟩) ck1 ⟨by omega, by omega⟩ ⟨by omega, by omega⟩ rfl (Nat.le_of_ble_eq_true rfl) d4 ?_
    rintro r' w' n' ⟨c1, c2, c3⟩
    subst c1; subst c2; subst c3
    refine T9 _ (m0 + 1) (ncl9 g sz0) ⟨zg_ne h2 zg_at, Or.inr ⟨h1, h2, h3, N, zg_at, Nat.zero_le _, h6, h7, fun i hi => absurd hi (Nat.not_lt_zero _)⟩, fun i hi => absurd hi (Nat.not_lt_zero _), fun a _ z2 z3 => (if_neg z3).trans (if_neg z2), fun a ha => (if_neg (by omega)).trans ((if_neg (by omega)).trans (hfree a ha)), Nat.le_refl _, Nat.le_refl _, Or.inl rfl⟩
end TLO
/-! the five lists -/
def mx9 (j : Nat) : Nat := if j = 2 then 12 else if j = 3 then 8 else if j = 6 then 40 else 24
def ci9 (j : Nat) : Nat := if j = 2 then 10 else if j = 3 then 8 else if j = 6 then 5 else if j = 7 then 4 else 1
def mxs : List Nat → Nat
  | [] => 0
  | j :: S => mx9 j + mxs S
/-- the lists before: the taker's at x, the giver's at y -/
def tlH (ar : Nat → ClassId) (w : zcW) (n e0 x y : Nat) (m0 m1 : Nat → Int) (ee sz0 es sz : Nat → Nat) (P : Nat → Nat → Nat) (vs : Nat → Nat → List Value) : Prop := ∀ j, isj9 j →
  w (x + j) = some (.inr (0, [.int (iz (m0 j)), .ref (ee j), .int (iz ((sz0 j : Nat) : Int))])) ∧ lsZ ar w n e0 (x + j) (ee j) (sz0 j) ∧ w (y + j) = some (.inr (0, [.int (iz (m1 j)), .ref (es j), .int (iz ((sz j : Nat) : Int))])) ∧ sz j ≤ mx9 j ∧ (sz j = 0 ∨ ∃ (N1 : Nat) (f1 : Nat → Option Nat), es j < n ∧ w (es j) = some (.inl (ar 2, N1, .inr (.inr (.inr (.inr f1))))) ∧ sz j ≤ N1 ∧ N1 ≤ 60 ∧ ∀ i, i < sz j → f1 i = some (P j i)) ∧ (∀ i, i < sz j → P j i < n ∧ w (P j i) = some (.inr (ci9 j, vs j i))) ∧ (sz j = 0 ∨ es j ≠ e0)
/-- what is apart -/
def tlN (e0 x y : Nat) (ee es sz : Nat → Nat) (P : Nat → Nat → Nat) : Prop := ∀ j, isj9 j → (ee j < x + 1 ∨ x + 19 ≤ ee j) ∧ (ee j < y + 1 ∨ y + 19 ≤ ee j) ∧ (es j < x + 1 ∨ x + 19 ≤ es j) ∧ ∀ j2, isj9 j2 → (es j2 ≠ e0 → es j2 ≠ ee j) ∧ (j ≠ j2 → ee j ≠ e0 → ee j2 ≠ ee j) ∧ ∀ i, i < sz j2 → P j2 i ≠ ee j ∧ (P j2 i < x + 1 ∨ x + 19 ≤ P j2 i)
/-- one of the taker's lists afterwards -/
def tld9 (ar : Nat → ClassId) (n e0 x : Nat) (ee sz : Nat → Nat) (P : Nat → Nat → Nat) (w9 : zcW) (n9 : Nat) (E : Nat → Nat) (j : Nat) : Prop := ∃ (m9 : Int) (g9 : Nat → Option Nat), w9 (x + j) = some (.inr (0, [.int (iz m9), .ref (E j), .int (iz ((sz j : Nat) : Int))])) ∧ lsB ar w9 n9 e0 (x + j) (E j) (sz j) g9 ∧ (∀ i, i < sz j → g9 i = some (P j i)) ∧ (E j = ee j ∨ n ≤ E j)
/-- when the lists S are done -/
def tlS (ar : Nat → ClassId) (w : zcW) (n e0 x : Nat) (ee sz : Nat → Nat) (P : Nat → Nat → Nat) (S : List Nat) (w9 : zcW) (n9 : Nat) (E : Nat → Nat) : Prop := (∀ a, a < n → (∀ j ∈ S, a ≠ x + j ∧ a ≠ ee j) → w9 a = w a) ∧ (∀ a, n9 ≤ a → w9 a = none) ∧ n ≤ n9 ∧ n9 ≤ n + mxs S ∧ (∀ j ∈ S, tld9 ar n e0 x ee sz P w9 n9 E j) ∧ ∀ j ∈ S, ∀ j2 ∈ S, j ≠ j2 → n ≤ E j → E j ≠ E j2
section TLS
variable {ar : Nat → ClassId} {w w9 w8 : zcW} {n n9 n8 e0 x y : Nat} {m0 m1 : Nat → Int} {ee sz0 es sz : Nat → Nat} {P : Nat → Nat → Nat} {vs : Nat → Nat → List Value} {S : List Nat} {E : Nat → Nat}
theorem isj_lt {j : Nat} (h : isj9 j) : 2 ≤ j ∧ j ≤ 8 := by unfold isj9 at h; omega
theorem tl_grow {j e8 : Nat} {m8 : Int} {g8 : Nat → Option Nat} (hn : x + 19 ≤ n ∧ e0 < n) (he0 : e0 < x) (hA : tlH ar w n e0 x y m0 m1 ee sz0 es sz P vs) (hN : tlN e0 x y ee es sz P) (hj : isj9 j) (hSj : ∀ i ∈ S, isj9 i) (hjS : ¬ j ∈ S) (h : tlS ar w n e0 x ee sz P S w9 n9 E) (h2 : tlo9 ar w9 n9 e0 (x + j) (ee j) (sz j) (P j) w8 n8 m8 e8 g8) : tlS ar w n e0 x ee sz P (j :: S) w8 n8 (fun i => if i = j then e8 else E i) := by
  obtain ⟨h1, h3, h4, h5, h6, h7⟩ := h
  obtain ⟨a1, a2, a3, a4, a5, a6, a7, a8⟩ := h2
  have hjr := isj_lt hj
  have mj := (hA j hj).2.2.2.1
  -- arrays of lists that are done are not touched
  have far : ∀ i ∈ S, E i ≠ e0 → E i < n9 → E i ≠ x + j ∧ E i ≠ ee j ∧ E i ≠ e8 := by
    intro i hi ne lt
    have hir := isj_lt (hSj i hi)
    have hij : j ≠ i := fun z => hjS (z ▸ hi)
    obtain ⟨m7, g7, b1, b2, b3, b4⟩ := h6 i hi
    have t1 : E i ≠ x + j := by
      rcases b4 with z | z
      · have := (hN i (hSj i hi)).1; omega
      · omega
    have t2 : E i ≠ ee j := by
      rcases b4 with z | z
      · intro y1
        exact ((hN i (hSj i hi)).2.2.2 j hj).2.1 (fun q => hij q.symm) (by omega) (by omega)
      · have lj := (hA j hj).2.1
        rcases lj with ⟨q, _⟩ | ⟨q, _⟩ <;> omega
    refine ⟨t1, t2, ?_⟩
    rcases a8 with z | z
    · omega
    · omega
  obtain ⟨F, hF⟩ : ∃ F : Nat → Nat, F = (fun i => if i = j then e8 else E i) := ⟨_, rfl⟩
  have Fj : F j = e8 := by rw [hF]; exact if_pos rfl
  have Fi : ∀ i, i ≠ j → F i = E i := fun i h => by rw [hF]; exact if_neg h
  rw [← hF]
  clear hF
  refine ⟨fun a ha hS => ?_, a5, by omega, ?_, fun i hi => ?_, fun i hi i2 hi2 hne hge => ?_⟩
  · have q := hS j (List.mem_cons_self ..)
    exact (a4 a (by omega) q.1 q.2).trans (h1 a ha (fun i hi => hS i (List.mem_cons_of_mem _ hi)))
  · show n8 ≤ n + (mx9 j + mxs S)
    omega
  · by_cases c : i = j
    · subst c
      refine ⟨m8, g8, ?_, ?_, a3, ?_⟩
      · rw [Fj]; exact a1
      · rw [Fj]; exact a2
      · rw [Fj]; omega
    · have hiS : i ∈ S := (List.mem_cons.mp hi).resolve_left c
      have hir := isj_lt (hSj i hiS)
      obtain ⟨m7, g7, b1, b2, b3, b4⟩ := h6 i hiS
      have wi := (a4 (x + i) (by omega) (by omega) (by have := (hN j hj).1; omega)).trans b1
      refine ⟨m7, g7, ?_, ?_, b3, ?_⟩
      · rw [Fi i c]; exact wi
      · rw [Fi i c]
        rcases b2 with ⟨q1, q2⟩ | ⟨q1, q2, q3, N, q4, q5, q6, q7, q8⟩
        · exact Or.inl ⟨q1, q2⟩
        · have fa := far i hiS q3 q1
          refine Or.inr ⟨by omega, q2, q3, N, (a4 (E i) q1 fa.1 fa.2.1).trans q4, q5, q6, q7, fun k hk z hz => ?_⟩
          have ez : z = P i k := by rw [b3 k hk] at hz; exact (Option.some.inj hz).symm
          obtain ⟨p1, p2⟩ := (hA i (hSj i hiS)).2.2.2.2.2.1 k hk
          have pn := ((hN j hj).2.2.2 i (hSj i hiS)).2.2 k hk
          have := q8 k hk z hz
          refine ⟨?_, this.2⟩
          obtain ⟨c1, c2, c3, c4, c5, c6⟩ := this.1
          exact ⟨c1, c2, c3, (a4 z (by omega) (by omega) (by omega)).trans c4, c5, c6⟩
      · rw [Fi i c]; exact b4
  · by_cases c : i = j
    · subst c
      rw [Fj] at hge ⊢
      have hi2S : i2 ∈ S := (List.mem_cons.mp hi2).resolve_left (fun z => hne z.symm)
      rw [Fi i2 (fun z => hne z.symm)]
      intro z
      obtain ⟨m7, g7, b1, b2, b3, b4⟩ := h6 i2 hi2S
      have lt : E i2 ≠ e0 ∧ E i2 < n9 := by
        rcases b2 with ⟨q1, q2⟩ | ⟨q1, q2, q3, _⟩ <;> omega
      exact (far i2 hi2S lt.1 lt.2).2.2 z.symm
    · rw [Fi i c] at hge ⊢
      have hiS : i ∈ S := (List.mem_cons.mp hi).resolve_left c
      by_cases d : i2 = j
      · subst d
        rw [Fj]
        obtain ⟨m7, g7, b1, b2, b3, b4⟩ := h6 i hiS
        have lt : E i ≠ e0 ∧ E i < n9 := by
          rcases b2 with ⟨q1, q2⟩ | ⟨q1, q2, q3, _⟩ <;> omega
        exact (far i hiS lt.1 lt.2).2.2
      · rw [Fi i2 d]
        exact h7 i hiS i2 ((List.mem_cons.mp hi2).resolve_left d) hne hge
end TLS
section TLW
variable {p : Program} {l : Launch} {e : Env} {R : Room} {s : State} {m : MethodId} {args : Array Value} {below : List Frame} {meth : Method} {c : Code} {nL : Nat} {Q : State → Prop} {loc : List (Nat × Value)} {cc : ByteArray} {D : va_G} {ar : Nat → ClassId} {B : Nat → Prop} {n : Nat} {w : zcW} {cells slots : Nat} {o : olP} {w9 : zcW} {n9 x y : Nat} {m0 m1 : Nat → Int} {ee sz0 es sz : Nat → Nat} {P : Nat → Nat → Nat} {vs : Nat → Nat → List Value} {S : List Nat} {E : Nat → Nat}
set_option maxRecDepth 100000 in
theorem tl_step {q0 idx idc f : Nat} {vx vy : List Value} {xr : vw_C} (j : Nat) (C : CallFix p m c cc nL s args hk_tb RX8) (K : clK D ar s) (O : olk B o s) (d : tlD cc q0 idx idc) (hnL : 2 < nL)
    (hj : isj9 j) (hSj : ∀ i ∈ S, isj9 i) (hjS : ¬ j ∈ S) (hA : tlH ar w n o.2.1 x y m0 m1 ee sz0 es sz P vs) (hN : tlN o.2.1 x y ee es sz P) (hxy : x + 23 ≤ y ∨ y + 23 ≤ x) (hn : x + 19 ≤ n ∧ y + 19 ≤ n) (he0 : o.2.1 < x ∧ o.2.1 < y)
    (hX : w (x + 1) = some (.inr (9, vx))) (hY : w (y + 1) = some (.inr (9, vy))) (hf : f < 20) (hvx : vx[f]? = some (.ref (x + j))) (hvy : vy[f]? = some (.ref (y + j))) (hfl : Cond.fieldLink RX8 idx "HookUps$Told" (TX8 f).2.1 (TX8 f).2.2.1 ∈ hk_tb) (hT1 : (TX8 f).1 = "HookUps$Told")
    (hB : ∀ a, B a → o.2.1 < a)
    (hxc : vwCl[ci9 j]? = some xr) (hxk : (xr.1, "java/lang/Object") ∈ nwC) (hcl : Cond.classLink RX8 idc xr.1 ∈ hk_tb)
    (hR : 7 ≤ R.frames ∧ 261 ≤ R.locals) (hfc : cells + mx9 j ≤ R.cells ∧ slots + 60 * mx9 j ≤ R.slots)
    (h : tlS ar w n o.2.1 x ee sz P S w9 n9 E)
    (k : ∀ (w8 : zcW) (n8 : Nat) (E8 : Nat → Nat), tlS ar w n o.2.1 x ee sz P (j :: S) w8 n8 E8 → hvV p l e R s m args below meth c nL B (cells + mx9 j) (slots + 60 * mx9 j) Q (zc_I D B w8 n8 s.heap) (q0 + 45) [(0, .ref (x + 1)), (1, .ref (y + 1))] []) :
    hvV p l e R s m args below meth c nL B cells slots Q (zc_I D B w9 n9 s.heap) q0 [(0, .ref (x + 1)), (1, .ref (y + 1))] [] := by
  have hjr := isj_lt hj
  obtain ⟨h1, h3, h4, h5, h6, h7⟩ := h
  obtain ⟨t1, t2, t3, t4, t5, t6, t7⟩ := hA j hj
  have hNj := hN j hj
  clear t5
  have fr : ∀ a, a < n → (a < x + 1 ∨ x + 19 ≤ a ∨ a = x + 1 ∨ a = x + j) → (∀ i ∈ S, a ≠ ee i) → w9 a = w a := fun a ha hb hc => h1 a ha (fun i hi => ⟨by have := isj_lt (hSj i hi); have : j ≠ i := fun z => hjS (z ▸ hi); omega, hc i hi⟩)
  have hM40 : mx9 j ≤ 40 := by unfold mx9; (repeat' split) <;> omega
  have eX : ∀ i ∈ S, x + 1 ≠ ee i := fun i hi => by have := (hN i (hSj i hi)).1; omega
  have eY : ∀ i ∈ S, y + 1 ≠ ee i := fun i hi => by have := (hN i (hSj i hi)).2.1; omega
  have eXj : ∀ i ∈ S, x + j ≠ ee i := fun i hi => by have := (hN i (hSj i hi)).1; omega
  have eYj : ∀ i ∈ S, y + j ≠ ee i := fun i hi => by have := (hN i (hSj i hi)).2.1; omega
  have kX := (fr (x + 1) (by omega) (by omega) eX).trans hX
  have kY := (fr (y + 1) (by omega) (by omega) eY).trans hY
  have kXj := (fr (x + j) (by omega) (by omega) eXj).trans t1
  have kYj := (fr (y + j) (by omega) (by omega) eYj).trans t3
  have ne9 : x + 1 ≠ x + j ∧ y + 1 ≠ x + j ∧ y + j ≠ x + j ∧ es j ≠ x + j ∧ x + 1 ≠ ee j ∧ y + 1 ≠ ee j ∧ y + j ≠ ee j ∧ (es j ≠ o.2.1 → es j ≠ ee j) := ⟨by omega, by omega, by omega, by omega, by omega, by omega, by omega, fun z => (hNj.2.2.2 j hj).1 z⟩
  have hq9 : x + j < n9 := by omega
  have hn99 : x + 1 < n9 ∧ y + 1 < n9 ∧ y + j < n9 := by omega
  refine tl_one (X := x + 1) (Y := y + 1) (q := x + j) (r := y + j) (ee := ee j) (sz0 := sz0 j) (es := es j) (sz := sz j) (M := mx9 j) (P := P j) (vs := vs j) (ci := ci9 j) (m0 := m0 j) (m1 := m1 j) C K O d hnL kX kY hf hvx hvy hfl hT1 hq9 hn99 kXj ?_ kYj ?_ (fun i hi => ?_) ⟨t4, hM40⟩ h3 hB ne9 t7 hxc hxk hcl ck_X8_97 ck_X8_100 ck_X8_104 ck_X8_110 hR hfc (fun w8 n8 m8 e8 g8 h8 => k w8 n8 _ (tl_grow ⟨hn.1, by omega⟩ he0.1 hA hN hj hSj hjS ⟨h1, h3, h4, h5, h6, h7⟩ h8))
  · rcases t2 with ⟨q1, q2⟩ | ⟨q1, q2, q3, N, g, q4, q5⟩
    · exact Or.inl ⟨q1, q2⟩
    · exact Or.inr ⟨by omega, q2, q3, N, g, (fr (ee j) q1 (by omega) (fun i hi => fun z => ((hNj).2.2.2 i (hSj i hi)).2.1 (fun y1 => hjS (y1 ▸ hi)) q3 z.symm)).trans q4, q5⟩
  · rcases (hA j hj).2.2.2.2.1 with q | ⟨N1, f1, q1, q2, q3⟩
    · exact Or.inl q
    · by_cases z0 : sz j = 0
      · exact Or.inl z0
      · exact Or.inr ⟨N1, f1, by omega, (fr (es j) q1 (by omega) (fun i hi => ((hN i (hSj i hi)).2.2.2 j hj).1 (t7.resolve_left z0))).trans q2, q3⟩
  · obtain ⟨p1, p2⟩ := t6 i hi
    have pj := (hNj.2.2.2 j hj).2.2 i hi
    exact ⟨by omega, (fr (P j i) p1 (by omega) (fun i2 hi2 => (((hN i2 (hSj i2 hi2)).2.2.2 j hj).2.2 i hi).1)).trans p2, by omega, pj.1⟩
end TLW

set_option maxRecDepth 100000 in
theorem tlD_2 : tlD cX8_takeLists 0 12 108 := ⟨by decide +kernel, by decide +kernel, by decide +kernel, by decide +kernel, by decide +kernel, by decide +kernel, by decide +kernel, by decide +kernel, by decide +kernel, by decide +kernel, by decide +kernel, by decide +kernel, by decide +kernel, by decide +kernel, by decide +kernel, by decide +kernel, by decide +kernel, by decide +kernel, by decide +kernel, by decide +kernel, by decide +kernel⟩
theorem tlD_3 : tlD cX8_takeLists 45 18 114 := ⟨by decide +kernel, by decide +kernel, by decide +kernel, by decide +kernel, by decide +kernel, by decide +kernel, by decide +kernel, by decide +kernel, by decide +kernel, by decide +kernel, by decide +kernel, by decide +kernel, by decide +kernel, by decide +kernel, by decide +kernel, by decide +kernel, by decide +kernel, by decide +kernel, by decide +kernel, by decide +kernel, by decide +kernel⟩
theorem tlD_6 : tlD cX8_takeLists 90 28 116 := ⟨by decide +kernel, by decide +kernel, by decide +kernel, by decide +kernel, by decide +kernel, by decide +kernel, by decide +kernel, by decide +kernel, by decide +kernel, by decide +kernel, by decide +kernel, by decide +kernel, by decide +kernel, by decide +kernel, by decide +kernel, by decide +kernel, by decide +kernel, by decide +kernel, by decide +kernel, by decide +kernel, by decide +kernel⟩
theorem tlD_7 : tlD cX8_takeLists 135 31 118 := ⟨by decide +kernel, by decide +kernel, by decide +kernel, by decide +kernel, by decide +kernel, by decide +kernel, by decide +kernel, by decide +kernel, by decide +kernel, by decide +kernel, by decide +kernel, by decide +kernel, by decide +kernel, by decide +kernel, by decide +kernel, by decide +kernel, by decide +kernel, by decide +kernel, by decide +kernel, by decide +kernel, by decide +kernel⟩
theorem tlD_8 : tlD cX8_takeLists 180 34 120 := ⟨by decide +kernel, by decide +kernel, by decide +kernel, by decide +kernel, by decide +kernel, by decide +kernel, by decide +kernel, by decide +kernel, by decide +kernel, by decide +kernel, by decide +kernel, by decide +kernel, by decide +kernel, by decide +kernel, by decide +kernel, by decide +kernel, by decide +kernel, by decide +kernel, by decide +kernel, by decide +kernel, by decide +kernel⟩
theorem dX8_takeLists_225 : decode cX8_takeLists 225 = .ok (.return_, 1) := by decide +kernel
set_option maxRecDepth 100000 in
set_option maxHeartbeats 4000000 in
theorem g_takeLists (l : Launch) {D : va_G} {ar : Nat → ClassId} {B : Nat → Prop} {n : Nat} {w : zcW} {o : olP} {x y : Nat} {m0 m1 : Nat → Int} {ee sz0 es sz : Nat → Nat} {P : Nat → Nat → Nat} {vs : Nat → Nat → List Value} {vx vy : List Value} (hA : tlH ar w n o.2.1 x y m0 m1 ee sz0 es sz P vs) (hN : tlN o.2.1 x y ee es sz P) (hxy : x + 23 ≤ y ∨ y + 23 ≤ x) (hn : x + 19 ≤ n ∧ y + 19 ≤ n) (he0 : o.2.1 < x ∧ o.2.1 < y) (hX : w (x + 1) = some (.inr (9, vx))) (hY : w (y + 1) = some (.inr (9, vy))) (hvx : vx[1]? = some (.ref (x + 2)) ∧ vx[2]? = some (.ref (x + 3)) ∧ vx[5]? = some (.ref (x + 6)) ∧ vx[6]? = some (.ref (x + 7)) ∧ vx[7]? = some (.ref (x + 8))) (hvy : vy[1]? = some (.ref (y + 2)) ∧ vy[2]? = some (.ref (y + 3)) ∧ vy[5]? = some (.ref (y + 6)) ∧ vy[6]? = some (.ref (y + 7)) ∧ vy[7]? = some (.ref (y + 8))) (hB : ∀ a, B a → o.2.1 < a) (hfree : ∀ a, n ≤ a → w a = none) : zo_M l D ar B o yX8_takeLists cX8_takeLists 3 none 7 261 108 6480 [.ref (x + 1), .ref (y + 1)] w n (fun r' w' n' => r' = none ∧ ∃ E, tlS ar w n o.2.1 x ee sz P [8, 7, 6, 3, 2] w' n' E) := by
  refine zo_start (own := RX8) (by decide +kernel) rfl (Nat.le_of_ble_eq_true rfl) ?_
  intro p e s m args below meth c C K O hz hr hlk hnam
  have b0 : tlS ar w n o.2.1 x ee sz P [] w n (fun _ => 0) := ⟨fun a _ _ => rfl, hfree, Nat.le_refl _, Nat.le_refl _, fun j hj => absurd hj List.not_mem_nil, fun j hj => absurd hj List.not_mem_nil⟩
  refine tl_step (f := 1) (S := []) 2 C K O tlD_2 (by decide) (by unfold isj9; decide) (by unfold isj9; decide) (by decide) hA hN hxy hn he0 hX hY (by decide) hvx.1 hvy.1 fl_X8_12 rfl hB rfl (by decide +kernel) cl_X8_108 ⟨Nat.le_refl _, Nat.le_refl _⟩ ⟨(by decide), (by decide)⟩ b0 ?_
  intro w1 n1 E1 b1
  refine tl_step (f := 2) (S := [2]) 3 C K O tlD_3 (by decide) (by unfold isj9; decide) (by unfold isj9; decide) (by decide) hA hN hxy hn he0 hX hY (by decide) hvx.2.1 hvy.2.1 fl_X8_18 rfl hB rfl (by decide +kernel) cl_X8_114 ⟨Nat.le_refl _, Nat.le_refl _⟩ ⟨(by decide), (by decide)⟩ b1 ?_
  intro w2 n2 E2 b2
  refine tl_step (f := 5) (S := [3, 2]) 6 C K O tlD_6 (by decide) (by unfold isj9; decide) (by unfold isj9; decide) (by decide) hA hN hxy hn he0 hX hY (by decide) hvx.2.2.1 hvy.2.2.1 fl_X8_28 rfl hB rfl (by decide +kernel) cl_X8_116 ⟨Nat.le_refl _, Nat.le_refl _⟩ ⟨(by decide), (by decide)⟩ b2 ?_
  intro w3 n3 E3 b3
  refine tl_step (f := 6) (S := [6, 3, 2]) 7 C K O tlD_7 (by decide) (by unfold isj9; decide) (by unfold isj9; decide) (by decide) hA hN hxy hn he0 hX hY (by decide) hvx.2.2.2.1 hvy.2.2.2.1 fl_X8_31 rfl hB rfl (by decide +kernel) cl_X8_118 ⟨Nat.le_refl _, Nat.le_refl _⟩ ⟨(by decide), (by decide)⟩ b3 ?_
  intro w4 n4 E4 b4
  refine tl_step (f := 7) (S := [7, 6, 3, 2]) 8 C K O tlD_8 (by decide) (by unfold isj9; decide) (by unfold isj9; decide) (by decide) hA hN hxy hn he0 hX hY (by decide) hvx.2.2.2.2 hvy.2.2.2.2 fl_X8_34 rfl hB rfl (by decide +kernel) cl_X8_120 ⟨Nat.le_refl _, Nat.le_refl _⟩ ⟨(by decide), (by decide)⟩ b4 ?_
  intro w5 n5 E5 b5
  exact zc_vret C hr hlk ⟨rfl, E5, b5⟩ dX8_takeLists_225
