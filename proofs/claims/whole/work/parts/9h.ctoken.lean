/-! tokens -/
def zto_M (l : Launch) (D : va_G) (ar : Nat → ClassId) (B : Nat → Prop) (o : olP) (b : Nat) (w0 : zcW) (n : Nat) (y : MethodName) (cc : ByteArray) (mL : Nat) (ret : Option FieldType) (fr lo : Nat) (as : List Value) (τ : Nat → Nat → Int) (r : Option Value) (τ' : Nat → Nat → Int) : Prop :=
  zo_M l D ar B o y cc mL ret fr lo 0 0 as (cw ar b τ w0) n (fun r' w' n' => r' = r ∧ w' = cw ar b τ' w0 ∧ n' = n)
section ZTO
variable {p : Program} {l : Launch} {e : Env} {R : Room} {s : State} {m : MethodId} {args : Array Value} {below : List Frame} {meth : Method} {c : Code} {nL : Nat} {Q : State → Prop} {pc : Nat} {loc : List (Nat × Value)} {stk : List Value} {cc : ByteArray} {D : va_G} {ar : Nat → ClassId} {B : Nat → Prop} {b n : Nat} {w0 w : zcW} {τ : Nat → Nat → Int} {own : String} {cells slots : Nat} {o : olP}
theorem zto_callS {y : MethodName} {bytes : ByteArray} {maxL : Nat} {ret : Option FieldType} {fr lo idx : Nat} {r : Option Value} {τ2 : Nat → Nat → Int} (As rest : List Value) (C : CallFix p m c cc nL s args hk_tb own) (K : clK D ar s) (O : olk B o s) (hM : zto_M l D ar B o b w0 n y bytes maxL ret fr lo As τ r τ2) (ck : zcS own y bytes maxL ret idx As.length) (hR : fr + 1 ≤ R.frames ∧ 8 + (maxL + 11) + lo ≤ R.locals) (hf : cells ≤ R.cells ∧ slots ≤ R.slots) (hs : stk = As.reverse ++ rest) (hW : (rest.map fun v => v.category).sum ≤ 8) (d : decode cc pc = .ok (.invokestatic idx, 3)) (k : hvV p l e R s m args below meth c nL B cells slots Q (zc_I D B (cw ar b τ2 w0) n s.heap) (pc + 3) loc (r.toList ++ rest)) : hvV p l e R s m args below meth c nL B cells slots Q (zc_I D B (cw ar b τ w0) n s.heap) pc loc stk :=
  zo_callS As rest C K O hM ck hR hf hs hW d (fun r' w' n' h => by obtain ⟨h1, h2, h3⟩ := h; subst h1; subst h2; subst h3; exact k)
theorem zto_callV {y : MethodName} {bytes : ByteArray} {maxL : Nat} {ret : Option FieldType} {fr lo idx a ci : Nat} {fs : List Value} {q : vw_C} {r : Option Value} {τ2 : Nat → Nat → Int} (As rest : List Value) (C : CallFix p m c cc nL s args hk_tb own) (K : clK D ar s) (O : olk B o s) (hw : cw ar b τ w0 a = some (.inr (ci, fs))) (hc : vwCl[ci]? = some q) (hM : zto_M l D ar B o b w0 n y bytes maxL ret fr lo (.ref a :: As) τ r τ2) (ck : zcV own q.1 y bytes maxL ret idx As.length) (hR : fr + 1 ≤ R.frames ∧ 8 + (maxL + 11) + lo ≤ R.locals) (hf : cells ≤ R.cells ∧ slots ≤ R.slots) (hs : stk = As.reverse ++ .ref a :: rest) (hW : (rest.map fun v => v.category).sum ≤ 8) (d : decode cc pc = .ok (.invokevirtual idx, 3)) (k : hvV p l e R s m args below meth c nL B cells slots Q (zc_I D B (cw ar b τ2 w0) n s.heap) (pc + 3) loc (r.toList ++ rest)) : hvV p l e R s m args below meth c nL B cells slots Q (zc_I D B (cw ar b τ w0) n s.heap) pc loc stk :=
  zo_callV As rest C K O hw hc hM ck hR hf hs hW d (fun r' w' n' h => by obtain ⟨h1, h2, h3⟩ := h; subst h1; subst h2; subst h3; exact k)
theorem zto_callVs {y : MethodName} {bytes : ByteArray} {maxL : Nat} {ret : Option FieldType} {fr lo idx : Nat} {r : Option Value} (As rest : List Value) (C : CallFix p m c cc nL s args hk_tb own) (K : clK D ar s) (O : olk B o s) (hn : s.heap.size ≤ n) (hM : zo_M l D ar B o y bytes maxL ret fr lo 0 0 (.ref o.2.2.1 :: As) w n (fun r' w' n' => r' = r ∧ w' = w ∧ n' = n)) (ck : zcV own "java/lang/String" y bytes maxL ret idx As.length) (hR : fr + 1 ≤ R.frames ∧ 8 + (maxL + 11) + lo ≤ R.locals) (hf : cells ≤ R.cells ∧ slots ≤ R.slots) (hs : stk = As.reverse ++ .ref o.2.2.1 :: rest) (hW : (rest.map fun v => v.category).sum ≤ 8) (d : decode cc pc = .ok (.invokevirtual idx, 3)) (k : hvV p l e R s m args below meth c nL B cells slots Q (zc_I D B w n s.heap) (pc + 3) loc (r.toList ++ rest)) : hvV p l e R s m args below meth c nL B cells slots Q (zc_I D B w n s.heap) pc loc stk :=
  zo_callVs As rest C K O hn hM ck hR hf hs hW d (fun r' w' n' h => by obtain ⟨h1, h2, h3⟩ := h; subst h1; subst h2; subst h3; exact k)
end ZTO
/-- the class's token that begins at p -/
def tv9 (A : Nat → Int) (n p : Int) : Int := if 97 ≤ by9 A n p ∧ by9 A n p ≤ 122 then cwm (wo9 (lt9 A n p p 0).1 p (lt9 A n p p 0).2) else if 48 ≤ by9 A n p ∧ by9 A n p ≤ 57 then (if 4 < (dg9 A n p p 0).1 - p then 1 else 100 + (dg9 A n p p 0).2) else if by9 A n p = 58 then 2 else if by9 A n p = 59 then 3 else if by9 A n p = 60 then 4 else if by9 A n p = 61 then 5 else if by9 A n p = 62 then 6 else 1
/-- where the k-th token is looked for, where it begins -/
def qs9 (A : Nat → Int) (n : Int) : Nat → Int
  | 0 => 0
  | k + 1 => te9 A n (sk9 A n (qs9 A n k))
def pl9q (A : Nat → Int) (n : Int) (k : Nat) : Int := sk9 A n (qs9 A n k)
theorem pl_r {A : Nat → Int} {n : Int} (hn : 0 ≤ n) : ∀ k : Nat, (∀ i, i < k → pl9q A n i < n) → ((k : Int) ≤ qs9 A n k ∧ qs9 A n k ≤ n) ∧ (k : Int) ≤ pl9q A n k ∧ pl9q A n k ≤ n
  | 0, _ => by
    have := sk9_r (A := A) (n := n) (q := 0) hn
    have e : qs9 A n 0 = 0 := rfl
    unfold pl9q
    rw [e]
    omega
  | k + 1, h => by
    have h1 := pl_r hn k (fun i hi => h i (by omega))
    have h2 := h k (by omega)
    have h3 := te9_r (A := A) (n := n) (p := pl9q A n k) h2
    have e : qs9 A n (k + 1) = te9 A n (pl9q A n k) := rfl
    have h4 := sk9_r (A := A) (n := n) (q := qs9 A n (k + 1)) (by omega)
    unfold pl9q at h1 h3 h4 ⊢
    unfold pl9q at e
    omega
/-- how many tokens there are -/
def tn9f (A : Nat → Int) (n : Int) : Nat → Nat → Nat
  | 0, k => k
  | f + 1, k => if pl9q A n k < n then tn9f A n f (k + 1) else k
def tn9 (A : Nat → Int) (n : Int) : Nat := tn9f A n 501 0
def tsq9 (A : Nat → Int) (n : Int) (T : Nat → Int) (k : Nat) : Nat → Int := fun i => if i < k then tv9 A n (pl9q A n i) else T i
def ps9q (A : Nat → Int) (n : Int) (T : Nat → Int) (k : Nat) : Nat → Int := fun i => if i < k then pl9q A n i else T i
theorem ts_s (A : Nat → Int) (n : Int) (T : Nat → Int) (k : Nat) : ua (tsq9 A n T k) k (tv9 A n (pl9q A n k)) = tsq9 A n T (k + 1) := by
  funext i
  unfold ua tsq9
  by_cases c : i = k
  · subst c; rw [if_pos rfl, if_pos (by omega)]
  · rw [if_neg c]
    by_cases d : i < k
    · rw [if_pos d, if_pos (by omega)]
    · rw [if_neg d, if_neg (by omega)]
theorem ps_s (A : Nat → Int) (n : Int) (T : Nat → Int) (k : Nat) : ua (ps9q A n T k) k (pl9q A n k) = ps9q A n T (k + 1) := by
  funext i
  unfold ua ps9q
  by_cases c : i = k
  · subst c; rw [if_pos rfl, if_pos (by omega)]
  · rw [if_neg c]
    by_cases d : i < k
    · rw [if_pos d, if_pos (by omega)]
    · rw [if_neg d, if_neg (by omega)]
theorem ts_0 (A : Nat → Int) (n : Int) (T : Nat → Int) : T = tsq9 A n T 0 := by
  funext i
  exact (if_neg (Nat.not_lt_zero _)).symm
theorem ps_0 (A : Nat → Int) (n : Int) (T : Nat → Int) : T = ps9q A n T 0 := by
  funext i
  exact (if_neg (Nat.not_lt_zero _)).symm
theorem tn_s {A : Nat → Int} {n : Int} {f k : Nat} (hf : 0 < f) (h : pl9q A n k < n) : tn9f A n f k = tn9f A n (f - 1) (k + 1) := by
  obtain ⟨g, rfl⟩ : ∃ q, f = q + 1 := ⟨f - 1, by omega⟩
  conv => lhs; unfold tn9f
  rw [if_pos h]; rfl
theorem tn_e {A : Nat → Int} {n : Int} {f k : Nat} (h : ¬ pl9q A n k < n) : tn9f A n f k = k := by
  cases f with
  | zero => rfl
  | succ g => unfold tn9f; rw [if_neg h]
/-- the reader's cells after splitting -/
def spS (A : Nat → Int) (n : Int) (τ : Nat → Nat → Int) : Nat → Nat → Int := sA (sA (sA τ 44 (ua (τ 44) 2 (tn9 A n : Int))) 45 (ua (tsq9 A n (τ 45) (tn9 A n)) (tn9 A n) 0)) 46 (ua (ps9q A n (τ 46) (tn9 A n)) (tn9 A n) n)

theorem dX5_wordToken_0 : decode cX5_wordToken 0 = .ok (.bipush 8, 2) := by decide +kernel
theorem dX5_wordToken_2 : decode cX5_wordToken 2 = .ok (.istore_n 3, 1) := by decide +kernel
theorem dX5_wordToken_3 : decode cX5_wordToken 3 = .ok (.iload_n 1, 1) := by decide +kernel
theorem dX5_wordToken_4 : decode cX5_wordToken 4 = .ok (.istore 4, 2) := by decide +kernel
theorem dX5_wordToken_6 : decode cX5_wordToken 6 = .ok (.iconst 1, 1) := by decide +kernel
theorem dX5_wordToken_7 : decode cX5_wordToken 7 = .ok (.istore 5, 2) := by decide +kernel
theorem dX5_wordToken_9 : decode cX5_wordToken 9 = .ok (.iconst 0, 1) := by decide +kernel
theorem dX5_wordToken_10 : decode cX5_wordToken 10 = .ok (.istore 6, 2) := by decide +kernel
theorem dX5_wordToken_12 : decode cX5_wordToken 12 = .ok (.iload 6, 2) := by decide +kernel
theorem dX5_wordToken_14 : decode cX5_wordToken 14 = .ok (.ldc 58, 2) := by decide +kernel
theorem dX5_wordToken_16 : decode cX5_wordToken 16 = .ok (.invokevirtual 60, 3) := by decide +kernel
theorem dX5_wordToken_19 : decode cX5_wordToken 19 = .ok (.if_icmp .ge 80, 3) := by decide +kernel
theorem dX5_wordToken_22 : decode cX5_wordToken 22 = .ok (.ldc 58, 2) := by decide +kernel
theorem dX5_wordToken_24 : decode cX5_wordToken 24 = .ok (.iload 6, 2) := by decide +kernel
theorem dX5_wordToken_26 : decode cX5_wordToken 26 = .ok (.invokevirtual 66, 3) := by decide +kernel
theorem dX5_wordToken_29 : decode cX5_wordToken 29 = .ok (.istore 7, 2) := by decide +kernel
theorem dX5_wordToken_31 : decode cX5_wordToken 31 = .ok (.iload 7, 2) := by decide +kernel
theorem dX5_wordToken_33 : decode cX5_wordToken 33 = .ok (.bipush 32, 2) := by decide +kernel
theorem dX5_wordToken_35 : decode cX5_wordToken 35 = .ok (.if_icmp .eq 36, 3) := by decide +kernel
theorem dX5_wordToken_38 : decode cX5_wordToken 38 = .ok (.iload 5, 2) := by decide +kernel
theorem dX5_wordToken_40 : decode cX5_wordToken 40 = .ok (.ifCond .eq 22, 3) := by decide +kernel
theorem dX5_wordToken_43 : decode cX5_wordToken 43 = .ok (.iload 4, 2) := by decide +kernel
theorem dX5_wordToken_45 : decode cX5_wordToken 45 = .ok (.iload_n 2, 1) := by decide +kernel
theorem dX5_wordToken_46 : decode cX5_wordToken 46 = .ok (.if_icmp .ge 16, 3) := by decide +kernel
theorem dX5_wordToken_49 : decode cX5_wordToken 49 = .ok (.aload_n 0, 1) := by decide +kernel
theorem dX5_wordToken_50 : decode cX5_wordToken 50 = .ok (.iload 4, 2) := by decide +kernel
theorem dX5_wordToken_52 : decode cX5_wordToken 52 = .ok (.baload, 1) := by decide +kernel
theorem dX5_wordToken_53 : decode cX5_wordToken 53 = .ok (.iload 7, 2) := by decide +kernel
theorem dX5_wordToken_55 : decode cX5_wordToken 55 = .ok (.if_icmp .ne 7, 3) := by decide +kernel
theorem dX5_wordToken_58 : decode cX5_wordToken 58 = .ok (.iconst 1, 1) := by decide +kernel
theorem dX5_wordToken_59 : decode cX5_wordToken 59 = .ok (.goto 4, 3) := by decide +kernel
theorem dX5_wordToken_62 : decode cX5_wordToken 62 = .ok (.iconst 0, 1) := by decide +kernel
theorem dX5_wordToken_63 : decode cX5_wordToken 63 = .ok (.istore 5, 2) := by decide +kernel
theorem dX5_wordToken_65 : decode cX5_wordToken 65 = .ok (.iinc 4 1, 3) := by decide +kernel
theorem dX5_wordToken_68 : decode cX5_wordToken 68 = .ok (.goto 25, 3) := by decide +kernel
theorem dX5_wordToken_71 : decode cX5_wordToken 71 = .ok (.iload 5, 2) := by decide +kernel
theorem dX5_wordToken_73 : decode cX5_wordToken 73 = .ok (.ifCond .eq 11, 3) := by decide +kernel
theorem dX5_wordToken_76 : decode cX5_wordToken 76 = .ok (.iload 4, 2) := by decide +kernel
theorem dX5_wordToken_78 : decode cX5_wordToken 78 = .ok (.iload_n 2, 1) := by decide +kernel
theorem dX5_wordToken_79 : decode cX5_wordToken 79 = .ok (.if_icmp .ne 5, 3) := by decide +kernel
theorem dX5_wordToken_82 : decode cX5_wordToken 82 = .ok (.iload_n 3, 1) := by decide +kernel
theorem dX5_wordToken_83 : decode cX5_wordToken 83 = .ok (.ireturn, 1) := by decide +kernel
theorem dX5_wordToken_84 : decode cX5_wordToken 84 = .ok (.iinc 3 1, 3) := by decide +kernel
theorem dX5_wordToken_87 : decode cX5_wordToken 87 = .ok (.iload_n 1, 1) := by decide +kernel
theorem dX5_wordToken_88 : decode cX5_wordToken 88 = .ok (.istore 4, 2) := by decide +kernel
theorem dX5_wordToken_90 : decode cX5_wordToken 90 = .ok (.iconst 1, 1) := by decide +kernel
theorem dX5_wordToken_91 : decode cX5_wordToken 91 = .ok (.istore 5, 2) := by decide +kernel
theorem dX5_wordToken_93 : decode cX5_wordToken 93 = .ok (.iinc 6 1, 3) := by decide +kernel
theorem dX5_wordToken_96 : decode cX5_wordToken 96 = .ok (.goto (-84), 3) := by decide +kernel
theorem dX5_wordToken_99 : decode cX5_wordToken 99 = .ok (.iconst 1, 1) := by decide +kernel
theorem dX5_wordToken_100 : decode cX5_wordToken 100 = .ok (.ireturn, 1) := by decide +kernel
set_option maxRecDepth 100000 in
set_option maxHeartbeats 4000000 in
theorem k_X5_wordToken (l : Launch) {D : va_G} {ar : Nat → ClassId} {B : Nat → Prop} {b n : Nat} {w0 : zcW} {o : olP} (A : Nat → Int) (ln : Nat) (τ : Nat → Nat → Int) (fm : Nat) (to9 : Nat) (hT : tpr A ln (τ 9)) (hr9 : fm < to9 ∧ to9 ≤ ln ∧ ln ≤ 500) (htx : tx9 o) : zto_M l D ar B o b w0 n yX5_wordToken cX5_wordToken 8 (some .int) 5 130 [.ref (b + 9), .int (iz ((fm : Nat) : Int)), .int (iz ((to9 : Nat) : Int))] τ (some (.int (iz (wr9 (τ 9) fm to9 wch 8 fm true)))) (τ) := by
  refine zo_start (own := RX5) (by decide +kernel) rfl (Nat.le_of_ble_eq_true rfl) ?_
  intro p e s m args below meth c C K O hz hr hlk hnam
  refine hv_bipush C dX5_wordToken_0 (by decide) ?_
  refine hv_istore_n C 3 [(3, .int (iz 8)), (0, .ref (b + 9)), (1, .int (iz ((fm : Nat) : Int))), (2, .int (iz ((to9 : Nat) : Int)))] dX5_wordToken_2 rfl (by decide) rfl ?_
  refine hv_iload_n C 1 2 dX5_wordToken_3 rfl rfl ?_
  refine hv_istore C 4 [(4, .int (iz ((fm : Nat) : Int))), (3, .int (iz 8)), (0, .ref (b + 9)), (1, .int (iz ((fm : Nat) : Int))), (2, .int (iz ((to9 : Nat) : Int)))] dX5_wordToken_4 (by decide) rfl ?_
  refine hv_iconst C dX5_wordToken_6 ?_
  refine hv_istore C 5 [(5, .int (iz 1)), (4, .int (iz ((fm : Nat) : Int))), (3, .int (iz 8)), (0, .ref (b + 9)), (1, .int (iz ((fm : Nat) : Int))), (2, .int (iz ((to9 : Nat) : Int)))] dX5_wordToken_7 (by decide) rfl ?_
  refine hv_iconst C dX5_wordToken_9 ?_
  refine hv_istore C 6 [(6, .int (iz 0)), (5, .int (iz 1)), (4, .int (iz ((fm : Nat) : Int))), (3, .int (iz 8)), (0, .ref (b + 9)), (1, .int (iz ((fm : Nat) : Int))), (2, .int (iz ((to9 : Nat) : Int)))] dX5_wordToken_10 (by decide) rfl ?_
  have L12 : ∀ (f : Nat) (wd : Int) (nx : Nat) (sm : Bool) (k : Nat), 78 - k < f → (k ≤ 78) → (fm ≤ nx ∧ nx ≤ fm + k) → (8 ≤ wd ∧ wd ≤ 8 + (k : Int)) → (wr9 (τ 9) fm to9 (wch.drop k) wd nx sm = wr9 (τ 9) fm to9 wch 8 fm true) → hvV p l e { frames := 5, cells := 0, slots := 0, locals := 130 } s m args below meth c 8 B 0 0 (MQ below (zc_Q D B (fun r' w' n' => r' = (some (.int (iz (wr9 (τ 9) fm to9 wch 8 fm true)))) ∧ w' = cw ar b (τ) w0 ∧ n' = n)) args s 0 0 B) (zc_I D B (cw ar b τ w0) n s.heap) 12 [(0, .ref (b + 9)), (1, .int (iz ((fm : Nat) : Int))), (2, .int (iz ((to9 : Nat) : Int))), (3, .int (iz wd)), (4, .int (iz ((nx : Nat) : Int))), (5, .int (iz (xb (sm)))), (6, .int (iz ((k : Nat) : Int)))] [] := by
    intro f
    induction f with
    | zero => intro _ _ _ _ hm; exact absurd hm (Nat.not_lt_zero _)
    | succ f ih12 =>
      intro wd nx sm k hm12 hk hx hd hw
      refine hv_iload C 6 6 dX5_wordToken_12 rfl ?_
      refine zo_ldcS C O.2.2.2.2.1 dX5_wordToken_14 ?_
      refine zto_callVs [] [.int (iz ((k : Nat) : Int))] C K O (by omega) (g_slen l) ck_X5_60 ⟨by dsimp only; omega, by dsimp only; omega⟩ ⟨Nat.zero_le _, Nat.zero_le _⟩ rfl (Nat.le_of_ble_eq_true rfl) dX5_wordToken_16 ?_
      refine hv_icmp_ge C 99 dX5_wordToken_19 (by decide) (by omega) (by omega) (fun h19 => ?_) (fun h19 => ?_)
      · skip
        refine hv_iconst C dX5_wordToken_99 ?_
        exact zt_iret C hr hlk (by first | (rw [← hw, wr_r k (by omega) (by rw [← ecq]; omega) h73 (by omega)]; done) | (rw [← hw, show k = 78 by omega]; rfl)) rfl dX5_wordToken_100
      · skip
        refine zo_ldcS C O.2.2.2.2.1 dX5_wordToken_22 ?_
        refine hv_iload C 6 6 dX5_wordToken_24 rfl ?_
        refine zto_callVs [.int (iz (k : Int))] [] C K O (by omega) (g_char l k (by omega) htx) ck_X5_66 ⟨by dsimp only; omega, by dsimp only; omega⟩ ⟨Nat.zero_le _, Nat.zero_le _⟩ rfl (Nat.le_of_ble_eq_true rfl) dX5_wordToken_26 ?_
        refine hv_as (wch.getD k 0) rfl ?_
        refine hv_nm (fun cq ecq => ?_)
        have rcq : 32 ≤ cq ∧ cq ≤ 122 := by rw [ecq]; exact wch_r k (by omega)
        refine hv_istore C 7 [(7, .int (iz cq)), (0, .ref (b + 9)), (1, .int (iz ((fm : Nat) : Int))), (2, .int (iz ((to9 : Nat) : Int))), (3, .int (iz wd)), (4, .int (iz ((nx : Nat) : Int))), (5, .int (iz (xb (sm)))), (6, .int (iz ((k : Nat) : Int)))] dX5_wordToken_29 (by decide) rfl ?_
        refine hv_iload C 7 0 dX5_wordToken_31 rfl ?_
        refine hv_bipush C dX5_wordToken_33 (by decide) ?_
        refine hv_icmp_eq C 71 dX5_wordToken_35 (by decide) (by omega) (by omega) (fun h35 => ?_) (fun h35 => ?_)
        · skip
          refine hv_iload C 5 6 dX5_wordToken_71 rfl ?_
          refine hv_bif_eq C 84 dX5_wordToken_73 (by decide)  (fun h73 => ?_) (fun h73 => ?_)
          · skip
            refine hv_iinc C 3 4 [(3, .int (iz (wd + 1))), (7, .int (iz cq)), (0, .ref (b + 9)), (1, .int (iz ((fm : Nat) : Int))), (2, .int (iz ((to9 : Nat) : Int))), (4, .int (iz ((nx : Nat) : Int))), (5, .int (iz (xb (sm)))), (6, .int (iz ((k : Nat) : Int)))] dX5_wordToken_84 rfl (by decide) rfl ?_
            refine hv_iload_n C 1 3 dX5_wordToken_87 rfl rfl ?_
            refine hv_istore C 4 [(4, .int (iz ((fm : Nat) : Int))), (3, .int (iz (wd + 1))), (7, .int (iz cq)), (0, .ref (b + 9)), (1, .int (iz ((fm : Nat) : Int))), (2, .int (iz ((to9 : Nat) : Int))), (5, .int (iz (xb (sm)))), (6, .int (iz ((k : Nat) : Int)))] dX5_wordToken_88 (by decide) rfl ?_
            refine hv_iconst C dX5_wordToken_90 ?_
            refine hv_istore C 5 [(5, .int (iz 1)), (4, .int (iz ((fm : Nat) : Int))), (3, .int (iz (wd + 1))), (7, .int (iz cq)), (0, .ref (b + 9)), (1, .int (iz ((fm : Nat) : Int))), (2, .int (iz ((to9 : Nat) : Int))), (6, .int (iz ((k : Nat) : Int)))] dX5_wordToken_91 (by decide) rfl ?_
            refine hv_iinc C 6 7 [(6, .int (iz (((k : Nat) : Int) + 1))), (5, .int (iz 1)), (4, .int (iz ((fm : Nat) : Int))), (3, .int (iz (wd + 1))), (7, .int (iz cq)), (0, .ref (b + 9)), (1, .int (iz ((fm : Nat) : Int))), (2, .int (iz ((to9 : Nat) : Int)))] dX5_wordToken_93 rfl (by decide) rfl ?_
            refine hv_goto C 12 dX5_wordToken_96 (by decide) ?_
            refine hv_loc [5, 6, 7, 3, 2, 1, 0] [(0, .ref (b + 9)), (1, .int (iz ((fm : Nat) : Int))), (2, .int (iz ((to9 : Nat) : Int))), (3, .int (iz (wd + 1))), (4, .int (iz ((fm : Nat) : Int))), (5, .int (iz 1)), (6, .int (iz (((k : Nat) : Int) + 1)))] rfl ?_
            exact ih12 (wd + 1) fm true (k + 1) (by omega) (by omega) (by omega) (by omega) (by first | (rw [← hw, wr_l k (by omega) (by rw [← ecq]; omega), h40, decide_eq_true (show nx < to9 ∧ τ 9 nx = wch.getD k 0 by omega)]; rfl) | (rw [← hw, wr_l k (by omega) (by rw [← ecq]; omega), show (sm && decide (nx < to9 ∧ τ 9 nx = wch.getD k 0)) = false from (by first | (rw [h40]; rfl) | (rw [decide_eq_false (by omega), Bool.and_false]))]) | (rw [← hw, wr_b k (by omega) (by rw [← ecq]; omega) (by first | (rw [h73]; simp; done) | omega)]))
          · skip
            refine hv_iload C 4 5 dX5_wordToken_76 rfl ?_
            refine hv_iload_n C 2 3 dX5_wordToken_78 rfl rfl ?_
            refine hv_icmp_ne C 84 dX5_wordToken_79 (by decide) (by omega) (by omega) (fun h79 => ?_) (fun h79 => ?_)
            · skip
              refine hv_iinc C 3 4 [(3, .int (iz (wd + 1))), (7, .int (iz cq)), (0, .ref (b + 9)), (1, .int (iz ((fm : Nat) : Int))), (2, .int (iz ((to9 : Nat) : Int))), (4, .int (iz ((nx : Nat) : Int))), (5, .int (iz (xb (sm)))), (6, .int (iz ((k : Nat) : Int)))] dX5_wordToken_84 rfl (by decide) rfl ?_
              refine hv_iload_n C 1 3 dX5_wordToken_87 rfl rfl ?_
              refine hv_istore C 4 [(4, .int (iz ((fm : Nat) : Int))), (3, .int (iz (wd + 1))), (7, .int (iz cq)), (0, .ref (b + 9)), (1, .int (iz ((fm : Nat) : Int))), (2, .int (iz ((to9 : Nat) : Int))), (5, .int (iz (xb (sm)))), (6, .int (iz ((k : Nat) : Int)))] dX5_wordToken_88 (by decide) rfl ?_
              refine hv_iconst C dX5_wordToken_90 ?_
              refine hv_istore C 5 [(5, .int (iz 1)), (4, .int (iz ((fm : Nat) : Int))), (3, .int (iz (wd + 1))), (7, .int (iz cq)), (0, .ref (b + 9)), (1, .int (iz ((fm : Nat) : Int))), (2, .int (iz ((to9 : Nat) : Int))), (6, .int (iz ((k : Nat) : Int)))] dX5_wordToken_91 (by decide) rfl ?_
              refine hv_iinc C 6 7 [(6, .int (iz (((k : Nat) : Int) + 1))), (5, .int (iz 1)), (4, .int (iz ((fm : Nat) : Int))), (3, .int (iz (wd + 1))), (7, .int (iz cq)), (0, .ref (b + 9)), (1, .int (iz ((fm : Nat) : Int))), (2, .int (iz ((to9 : Nat) : Int)))] dX5_wordToken_93 rfl (by decide) rfl ?_
              refine hv_goto C 12 dX5_wordToken_96 (by decide) ?_
              refine hv_loc [5, 6, 7, 3, 2, 1, 0] [(0, .ref (b + 9)), (1, .int (iz ((fm : Nat) : Int))), (2, .int (iz ((to9 : Nat) : Int))), (3, .int (iz (wd + 1))), (4, .int (iz ((fm : Nat) : Int))), (5, .int (iz 1)), (6, .int (iz (((k : Nat) : Int) + 1)))] rfl ?_
              exact ih12 (wd + 1) fm true (k + 1) (by omega) (by omega) (by omega) (by omega) (by first | (rw [← hw, wr_l k (by omega) (by rw [← ecq]; omega), h40, decide_eq_true (show nx < to9 ∧ τ 9 nx = wch.getD k 0 by omega)]; rfl) | (rw [← hw, wr_l k (by omega) (by rw [← ecq]; omega), show (sm && decide (nx < to9 ∧ τ 9 nx = wch.getD k 0)) = false from (by first | (rw [h40]; rfl) | (rw [decide_eq_false (by omega), Bool.and_false]))]) | (rw [← hw, wr_b k (by omega) (by rw [← ecq]; omega) (by first | (rw [h73]; simp; done) | omega)]))
            · skip
              refine hv_iload_n C 3 4 dX5_wordToken_82 rfl rfl ?_
              exact zt_iret C hr hlk (by first | (rw [← hw, wr_r k (by omega) (by rw [← ecq]; omega) h73 (by omega)]; done) | (rw [← hw, show k = 78 by omega]; rfl)) rfl dX5_wordToken_83
        · skip
          refine hv_iload C 5 6 dX5_wordToken_38 rfl ?_
          refine hv_bif_eq C 62 dX5_wordToken_40 (by decide)  (fun h40 => ?_) (fun h40 => ?_)
          · skip
            refine hv_iconst C dX5_wordToken_62 ?_
            refine hv_istore C 5 [(5, .int (iz 0)), (7, .int (iz cq)), (0, .ref (b + 9)), (1, .int (iz ((fm : Nat) : Int))), (2, .int (iz ((to9 : Nat) : Int))), (3, .int (iz wd)), (4, .int (iz ((nx : Nat) : Int))), (6, .int (iz ((k : Nat) : Int)))] dX5_wordToken_63 (by decide) rfl ?_
            refine hv_iinc C 4 6 [(4, .int (iz (((nx : Nat) : Int) + 1))), (5, .int (iz 0)), (7, .int (iz cq)), (0, .ref (b + 9)), (1, .int (iz ((fm : Nat) : Int))), (2, .int (iz ((to9 : Nat) : Int))), (3, .int (iz wd)), (6, .int (iz ((k : Nat) : Int)))] dX5_wordToken_65 rfl (by decide) rfl ?_
            refine hv_goto C 93 dX5_wordToken_68 (by decide) ?_
            refine hv_iinc C 6 7 [(6, .int (iz (((k : Nat) : Int) + 1))), (4, .int (iz (((nx : Nat) : Int) + 1))), (5, .int (iz 0)), (7, .int (iz cq)), (0, .ref (b + 9)), (1, .int (iz ((fm : Nat) : Int))), (2, .int (iz ((to9 : Nat) : Int))), (3, .int (iz wd))] dX5_wordToken_93 rfl (by decide) rfl ?_
            refine hv_goto C 12 dX5_wordToken_96 (by decide) ?_
            refine hv_loc [4, 5, 6, 7, 1, 2, 0] [(0, .ref (b + 9)), (1, .int (iz ((fm : Nat) : Int))), (2, .int (iz ((to9 : Nat) : Int))), (3, .int (iz wd)), (4, .int (iz (((nx : Nat) : Int) + 1))), (5, .int (iz 0)), (6, .int (iz (((k : Nat) : Int) + 1)))] rfl ?_
            exact ih12 wd (nx + 1) false (k + 1) (by omega) (by omega) (by omega) (by omega) (by first | (rw [← hw, wr_l k (by omega) (by rw [← ecq]; omega), h40, decide_eq_true (show nx < to9 ∧ τ 9 nx = wch.getD k 0 by omega)]; rfl) | (rw [← hw, wr_l k (by omega) (by rw [← ecq]; omega), show (sm && decide (nx < to9 ∧ τ 9 nx = wch.getD k 0)) = false from (by first | (rw [h40]; rfl) | (rw [decide_eq_false (by omega), Bool.and_false]))]) | (rw [← hw, wr_b k (by omega) (by rw [← ecq]; omega) (by first | (rw [h73]; simp; done) | omega)]))
          · skip
            refine hv_iload C 4 5 dX5_wordToken_43 rfl ?_
            refine hv_iload_n C 2 3 dX5_wordToken_45 rfl rfl ?_
            refine hv_icmp_ge C 62 dX5_wordToken_46 (by decide) (by omega) (by omega) (fun h46 => ?_) (fun h46 => ?_)
            · skip
              refine hv_iconst C dX5_wordToken_62 ?_
              refine hv_istore C 5 [(5, .int (iz 0)), (7, .int (iz cq)), (0, .ref (b + 9)), (1, .int (iz ((fm : Nat) : Int))), (2, .int (iz ((to9 : Nat) : Int))), (3, .int (iz wd)), (4, .int (iz ((nx : Nat) : Int))), (6, .int (iz ((k : Nat) : Int)))] dX5_wordToken_63 (by decide) rfl ?_
              refine hv_iinc C 4 6 [(4, .int (iz (((nx : Nat) : Int) + 1))), (5, .int (iz 0)), (7, .int (iz cq)), (0, .ref (b + 9)), (1, .int (iz ((fm : Nat) : Int))), (2, .int (iz ((to9 : Nat) : Int))), (3, .int (iz wd)), (6, .int (iz ((k : Nat) : Int)))] dX5_wordToken_65 rfl (by decide) rfl ?_
              refine hv_goto C 93 dX5_wordToken_68 (by decide) ?_
              refine hv_iinc C 6 7 [(6, .int (iz (((k : Nat) : Int) + 1))), (4, .int (iz (((nx : Nat) : Int) + 1))), (5, .int (iz 0)), (7, .int (iz cq)), (0, .ref (b + 9)), (1, .int (iz ((fm : Nat) : Int))), (2, .int (iz ((to9 : Nat) : Int))), (3, .int (iz wd))] dX5_wordToken_93 rfl (by decide) rfl ?_
              refine hv_goto C 12 dX5_wordToken_96 (by decide) ?_
              refine hv_loc [4, 5, 6, 7, 1, 2, 0] [(0, .ref (b + 9)), (1, .int (iz ((fm : Nat) : Int))), (2, .int (iz ((to9 : Nat) : Int))), (3, .int (iz wd)), (4, .int (iz (((nx : Nat) : Int) + 1))), (5, .int (iz 0)), (6, .int (iz (((k : Nat) : Int) + 1)))] rfl ?_
              exact ih12 wd (nx + 1) false (k + 1) (by omega) (by omega) (by omega) (by omega) (by first | (rw [← hw, wr_l k (by omega) (by rw [← ecq]; omega), h40, decide_eq_true (show nx < to9 ∧ τ 9 nx = wch.getD k 0 by omega)]; rfl) | (rw [← hw, wr_l k (by omega) (by rw [← ecq]; omega), show (sm && decide (nx < to9 ∧ τ 9 nx = wch.getD k 0)) = false from (by first | (rw [h40]; rfl) | (rw [decide_eq_false (by omega), Bool.and_false]))]) | (rw [← hw, wr_b k (by omega) (by rw [← ecq]; omega) (by first | (rw [h73]; simp; done) | omega)]))
            · skip
              have bnx := tp_at hT nx (by omega)
              refine hv_aload_n C 0 1 dX5_wordToken_49 rfl rfl ?_
              refine hv_iload C 4 5 dX5_wordToken_50 rfl ?_
              refine zc_bald C K (f := (τ 9)) nx (cw_at 9 rfl) (by omega) (by omega) (by decide) dX5_wordToken_52 ?_
              refine hv_as (τ 9 nx) rfl ?_
              refine hv_nm (fun x1 ex1 => ?_)
              have rx1 : inI x1 := by rw [ex1]; exact (by omega)
              refine hv_iload C 7 0 dX5_wordToken_53 rfl ?_
              refine hv_icmp_ne C 62 dX5_wordToken_55 (by decide) (by omega) (by omega) (fun h55 => ?_) (fun h55 => ?_)
              · skip
                refine hv_iconst C dX5_wordToken_62 ?_
                refine hv_istore C 5 [(5, .int (iz 0)), (7, .int (iz cq)), (0, .ref (b + 9)), (1, .int (iz ((fm : Nat) : Int))), (2, .int (iz ((to9 : Nat) : Int))), (3, .int (iz wd)), (4, .int (iz ((nx : Nat) : Int))), (6, .int (iz ((k : Nat) : Int)))] dX5_wordToken_63 (by decide) rfl ?_
                refine hv_iinc C 4 6 [(4, .int (iz (((nx : Nat) : Int) + 1))), (5, .int (iz 0)), (7, .int (iz cq)), (0, .ref (b + 9)), (1, .int (iz ((fm : Nat) : Int))), (2, .int (iz ((to9 : Nat) : Int))), (3, .int (iz wd)), (6, .int (iz ((k : Nat) : Int)))] dX5_wordToken_65 rfl (by decide) rfl ?_
                refine hv_goto C 93 dX5_wordToken_68 (by decide) ?_
                refine hv_iinc C 6 7 [(6, .int (iz (((k : Nat) : Int) + 1))), (4, .int (iz (((nx : Nat) : Int) + 1))), (5, .int (iz 0)), (7, .int (iz cq)), (0, .ref (b + 9)), (1, .int (iz ((fm : Nat) : Int))), (2, .int (iz ((to9 : Nat) : Int))), (3, .int (iz wd))] dX5_wordToken_93 rfl (by decide) rfl ?_
                refine hv_goto C 12 dX5_wordToken_96 (by decide) ?_
                refine hv_loc [4, 5, 6, 7, 1, 2, 0] [(0, .ref (b + 9)), (1, .int (iz ((fm : Nat) : Int))), (2, .int (iz ((to9 : Nat) : Int))), (3, .int (iz wd)), (4, .int (iz (((nx : Nat) : Int) + 1))), (5, .int (iz 0)), (6, .int (iz (((k : Nat) : Int) + 1)))] rfl ?_
                exact ih12 wd (nx + 1) false (k + 1) (by omega) (by omega) (by omega) (by omega) (by first | (rw [← hw, wr_l k (by omega) (by rw [← ecq]; omega), h40, decide_eq_true (show nx < to9 ∧ τ 9 nx = wch.getD k 0 by omega)]; rfl) | (rw [← hw, wr_l k (by omega) (by rw [← ecq]; omega), show (sm && decide (nx < to9 ∧ τ 9 nx = wch.getD k 0)) = false from (by first | (rw [h40]; rfl) | (rw [decide_eq_false (by omega), Bool.and_false]))]) | (rw [← hw, wr_b k (by omega) (by rw [← ecq]; omega) (by first | (rw [h73]; simp; done) | omega)]))
              · skip
                refine hv_iconst C dX5_wordToken_58 ?_
                refine hv_goto C 63 dX5_wordToken_59 (by decide) ?_
                refine hv_istore C 5 [(5, .int (iz 1)), (7, .int (iz cq)), (0, .ref (b + 9)), (1, .int (iz ((fm : Nat) : Int))), (2, .int (iz ((to9 : Nat) : Int))), (3, .int (iz wd)), (4, .int (iz ((nx : Nat) : Int))), (6, .int (iz ((k : Nat) : Int)))] dX5_wordToken_63 (by decide) rfl ?_
                refine hv_iinc C 4 6 [(4, .int (iz (((nx : Nat) : Int) + 1))), (5, .int (iz 1)), (7, .int (iz cq)), (0, .ref (b + 9)), (1, .int (iz ((fm : Nat) : Int))), (2, .int (iz ((to9 : Nat) : Int))), (3, .int (iz wd)), (6, .int (iz ((k : Nat) : Int)))] dX5_wordToken_65 rfl (by decide) rfl ?_
                refine hv_goto C 93 dX5_wordToken_68 (by decide) ?_
                refine hv_iinc C 6 7 [(6, .int (iz (((k : Nat) : Int) + 1))), (4, .int (iz (((nx : Nat) : Int) + 1))), (5, .int (iz 1)), (7, .int (iz cq)), (0, .ref (b + 9)), (1, .int (iz ((fm : Nat) : Int))), (2, .int (iz ((to9 : Nat) : Int))), (3, .int (iz wd))] dX5_wordToken_93 rfl (by decide) rfl ?_
                refine hv_goto C 12 dX5_wordToken_96 (by decide) ?_
                refine hv_loc [4, 5, 6, 7, 1, 2, 0] [(0, .ref (b + 9)), (1, .int (iz ((fm : Nat) : Int))), (2, .int (iz ((to9 : Nat) : Int))), (3, .int (iz wd)), (4, .int (iz (((nx : Nat) : Int) + 1))), (5, .int (iz 1)), (6, .int (iz (((k : Nat) : Int) + 1)))] rfl ?_
                exact ih12 wd (nx + 1) true (k + 1) (by omega) (by omega) (by omega) (by omega) (by first | (rw [← hw, wr_l k (by omega) (by rw [← ecq]; omega), h40, decide_eq_true (show nx < to9 ∧ τ 9 nx = wch.getD k 0 by omega)]; rfl) | (rw [← hw, wr_l k (by omega) (by rw [← ecq]; omega), show (sm && decide (nx < to9 ∧ τ 9 nx = wch.getD k 0)) = false from (by first | (rw [h40]; rfl) | (rw [decide_eq_false (by omega), Bool.and_false]))]) | (rw [← hw, wr_b k (by omega) (by rw [← ecq]; omega) (by first | (rw [h73]; simp; done) | omega)]))
  refine hv_loc [4, 5, 6, 3, 2, 1, 0] [(0, .ref (b + 9)), (1, .int (iz ((fm : Nat) : Int))), (2, .int (iz ((to9 : Nat) : Int))), (3, .int (iz 8)), (4, .int (iz ((fm : Nat) : Int))), (5, .int (iz 1)), (6, .int (iz 0))] rfl ?_
  exact L12 _ 8 fm true 0 (Nat.lt_succ_self _) (by omega) (by omega) (by omega) rfl
theorem dX5_tokenOf_0 : decode cX5_tokenOf 0 = .ok (.aload_n 0, 1) := by decide +kernel
theorem dX5_tokenOf_1 : decode cX5_tokenOf 1 = .ok (.iload_n 1, 1) := by decide +kernel
theorem dX5_tokenOf_2 : decode cX5_tokenOf 2 = .ok (.baload, 1) := by decide +kernel
theorem dX5_tokenOf_3 : decode cX5_tokenOf 3 = .ok (.invokestatic 45, 3) := by decide +kernel
theorem dX5_tokenOf_6 : decode cX5_tokenOf 6 = .ok (.ifCond .eq 10, 3) := by decide +kernel
theorem dX5_tokenOf_9 : decode cX5_tokenOf 9 = .ok (.aload_n 0, 1) := by decide +kernel
theorem dX5_tokenOf_10 : decode cX5_tokenOf 10 = .ok (.iload_n 1, 1) := by decide +kernel
theorem dX5_tokenOf_11 : decode cX5_tokenOf 11 = .ok (.iload_n 2, 1) := by decide +kernel
theorem dX5_tokenOf_12 : decode cX5_tokenOf 12 = .ok (.invokestatic 52, 3) := by decide +kernel
theorem dX5_tokenOf_15 : decode cX5_tokenOf 15 = .ok (.ireturn, 1) := by decide +kernel
theorem dX5_tokenOf_16 : decode cX5_tokenOf 16 = .ok (.aload_n 0, 1) := by decide +kernel
theorem dX5_tokenOf_17 : decode cX5_tokenOf 17 = .ok (.iload_n 1, 1) := by decide +kernel
theorem dX5_tokenOf_18 : decode cX5_tokenOf 18 = .ok (.baload, 1) := by decide +kernel
theorem dX5_tokenOf_19 : decode cX5_tokenOf 19 = .ok (.invokestatic 49, 3) := by decide +kernel
theorem dX5_tokenOf_22 : decode cX5_tokenOf 22 = .ok (.ifCond .eq 10, 3) := by decide +kernel
theorem dX5_tokenOf_25 : decode cX5_tokenOf 25 = .ok (.aload_n 0, 1) := by decide +kernel
theorem dX5_tokenOf_26 : decode cX5_tokenOf 26 = .ok (.iload_n 1, 1) := by decide +kernel
theorem dX5_tokenOf_27 : decode cX5_tokenOf 27 = .ok (.iload_n 2, 1) := by decide +kernel
theorem dX5_tokenOf_28 : decode cX5_tokenOf 28 = .ok (.invokestatic 55, 3) := by decide +kernel
theorem dX5_tokenOf_31 : decode cX5_tokenOf 31 = .ok (.ireturn, 1) := by decide +kernel
theorem dX5_tokenOf_32 : decode cX5_tokenOf 32 = .ok (.aload_n 0, 1) := by decide +kernel
theorem dX5_tokenOf_33 : decode cX5_tokenOf 33 = .ok (.iload_n 1, 1) := by decide +kernel
theorem dX5_tokenOf_34 : decode cX5_tokenOf 34 = .ok (.baload, 1) := by decide +kernel
theorem dX5_tokenOf_35 : decode cX5_tokenOf 35 = .ok (.tableswitch 44 58 62 #[33, 35, 37, 39, 41], 33) := by decide +kernel
theorem dX5_tokenOf_68 : decode cX5_tokenOf 68 = .ok (.iconst 2, 1) := by decide +kernel
theorem dX5_tokenOf_69 : decode cX5_tokenOf 69 = .ok (.ireturn, 1) := by decide +kernel
theorem dX5_tokenOf_70 : decode cX5_tokenOf 70 = .ok (.iconst 3, 1) := by decide +kernel
theorem dX5_tokenOf_71 : decode cX5_tokenOf 71 = .ok (.ireturn, 1) := by decide +kernel
theorem dX5_tokenOf_72 : decode cX5_tokenOf 72 = .ok (.iconst 4, 1) := by decide +kernel
theorem dX5_tokenOf_73 : decode cX5_tokenOf 73 = .ok (.ireturn, 1) := by decide +kernel
theorem dX5_tokenOf_74 : decode cX5_tokenOf 74 = .ok (.iconst 5, 1) := by decide +kernel
theorem dX5_tokenOf_75 : decode cX5_tokenOf 75 = .ok (.ireturn, 1) := by decide +kernel
theorem dX5_tokenOf_76 : decode cX5_tokenOf 76 = .ok (.bipush 6, 2) := by decide +kernel
theorem dX5_tokenOf_78 : decode cX5_tokenOf 78 = .ok (.ireturn, 1) := by decide +kernel
theorem dX5_tokenOf_79 : decode cX5_tokenOf 79 = .ok (.iconst 1, 1) := by decide +kernel
theorem dX5_tokenOf_80 : decode cX5_tokenOf 80 = .ok (.ireturn, 1) := by decide +kernel
theorem ck_X5_55 : zcS RX5 yX5_numberToken cX5_numberToken 5 (some .int) 55 3 := ⟨hk_tq4 15 (by decide +kernel) (by decide +kernel), hk_tq4 13 (by decide +kernel) (by decide +kernel), hk_tq1 10 (by decide +kernel) (by decide +kernel), ⟨by decide, by decide, by decide +kernel⟩, hk_tq4 14 (by decide +kernel) (by decide +kernel)⟩
theorem ck_X5_52 : zcS RX5 yX5_wordToken cX5_wordToken 8 (some .int) 52 3 := ⟨hk_tq3 205 (by decide +kernel) (by decide +kernel), hk_tq3 203 (by decide +kernel) (by decide +kernel), hk_tq1 10 (by decide +kernel) (by decide +kernel), ⟨by decide, by decide, by decide +kernel⟩, hk_tq3 204 (by decide +kernel) (by decide +kernel)⟩
set_option maxRecDepth 100000 in
set_option maxHeartbeats 4000000 in
theorem k_X5_tokenOf (l : Launch) {D : va_G} {ar : Nat → ClassId} {B : Nat → Prop} {b n : Nat} {w0 : zcW} {o : olP} (A : Nat → Int) (ln : Nat) (τ : Nat → Nat → Int) (fm : Nat) (to9 : Nat) (hT : tpr A ln (τ 9)) (hr9 : fm < to9 ∧ to9 ≤ ln ∧ ln ≤ 500) (ht9 : (to9 : Int) = te9 A ln fm) (htx : tx9 o) : zto_M l D ar B o b w0 n yX5_tokenOf cX5_tokenOf 3 (some .int) 6 180 [.ref (b + 9), .int (iz ((fm : Nat) : Int)), .int (iz ((to9 : Nat) : Int))] τ (some (.int (iz (tv9 A ln fm)))) (τ) := by
  refine zo_start (own := RX5) (by decide +kernel) rfl (Nat.le_of_ble_eq_true rfl) ?_
  intro p e s m args below meth c C K O hz hr hlk hnam
  have bfm := tp_at hT fm (by omega)
  refine hv_aload_n C 0 0 dX5_tokenOf_0 rfl rfl ?_
  refine hv_iload_n C 1 1 dX5_tokenOf_1 rfl rfl ?_
  refine zc_bald C K (f := (τ 9)) fm (cw_at 9 rfl) (by omega) (by omega) (by decide) dX5_tokenOf_2 ?_
  refine hv_as (τ 9 fm) rfl ?_
  refine hv_nm (fun x1 ex1 => ?_)
  have rx1 : inI x1 := by rw [ex1]; exact (by omega)
  refine zt_callS [.int (iz x1)] [] C K (k_X5_isLetter l  τ x1 (by omega)) ck_X5_45 ⟨by dsimp only; omega, by dsimp only; omega⟩ ⟨Nat.zero_le _, Nat.zero_le _⟩ rfl (Nat.le_of_ble_eq_true rfl) dX5_tokenOf_3 ?_
  refine hv_as (xb (decide (97 ≤ x1 ∧ x1 ≤ 122))) rfl ?_
  refine hv_dif_eq C 16 dX5_tokenOf_6 (by decide)  (fun h6 => ?_) (fun h6 => ?_)
  · skip
    refine hv_aload_n C 0 0 dX5_tokenOf_16 rfl rfl ?_
    refine hv_iload_n C 1 1 dX5_tokenOf_17 rfl rfl ?_
    refine zc_bald C K (f := (τ 9)) fm (cw_at 9 rfl) (by omega) (by omega) (by decide) dX5_tokenOf_18 ?_
    refine hv_as (τ 9 fm) rfl ?_
    refine hv_nm (fun x2 ex2 => ?_)
    have rx2 : inI x2 := by rw [ex2]; exact (by omega)
    refine zt_callS [.int (iz x2)] [] C K (k_X5_isDigit l  τ x2 (by omega)) ck_X5_49 ⟨by dsimp only; omega, by dsimp only; omega⟩ ⟨Nat.zero_le _, Nat.zero_le _⟩ rfl (Nat.le_of_ble_eq_true rfl) dX5_tokenOf_19 ?_
    refine hv_as (xb (decide (48 ≤ x2 ∧ x2 ≤ 57))) rfl ?_
    refine hv_dif_eq C 32 dX5_tokenOf_22 (by decide)  (fun h22 => ?_) (fun h22 => ?_)
    · skip
      refine hv_aload_n C 0 0 dX5_tokenOf_32 rfl rfl ?_
      refine hv_iload_n C 1 1 dX5_tokenOf_33 rfl rfl ?_
      refine zc_bald C K (f := (τ 9)) fm (cw_at 9 rfl) (by omega) (by omega) (by decide) dX5_tokenOf_34 ?_
      refine hv_as (τ 9 fm) rfl ?_
      refine hv_nm (fun x3 ex3 => ?_)
      have rx3 : inI x3 := by rw [ex3]; exact (by omega)
      rcases (by omega : x3 = 58 ∨ x3 = 59 ∨ x3 = 60 ∨ x3 = 61 ∨ x3 = 62 ∨ (x3 < 58 ∨ 62 < x3)) with q | q | q | q | q | q
      · subst q
        refine hv_tableIn C 68 ⟨by decide, by decide⟩ dX5_tokenOf_35 (by decide) (by decide) rfl (by decide) ?_
        refine hv_iconst C dX5_tokenOf_68 ?_
        exact zt_iret C hr hlk (by first | (unfold tv9; rw [if_pos hlt]; exact wr_wo hT (by omega) hlt hle) | (unfold tv9; rw [if_neg hln, if_pos hdt, dg9_de, ← hde]) | (unfold tv9; rw [if_neg (by omega), if_neg (by omega)]; first | (rw [if_pos (by omega)]; done) | (rw [if_neg (by omega), if_pos (by omega)]; done) | (rw [if_neg (by omega), if_neg (by omega), if_pos (by omega)]; done) | (rw [if_neg (by omega), if_neg (by omega), if_neg (by omega), if_pos (by omega)]; done) | (rw [if_neg (by omega), if_neg (by omega), if_neg (by omega), if_neg (by omega), if_pos (by omega)]; done) | (rw [if_neg (by omega), if_neg (by omega), if_neg (by omega), if_neg (by omega), if_neg (by omega)]; done))) rfl dX5_tokenOf_69
      · subst q
        refine hv_tableIn C 70 ⟨by decide, by decide⟩ dX5_tokenOf_35 (by decide) (by decide) rfl (by decide) ?_
        refine hv_iconst C dX5_tokenOf_70 ?_
        exact zt_iret C hr hlk (by first | (unfold tv9; rw [if_pos hlt]; exact wr_wo hT (by omega) hlt hle) | (unfold tv9; rw [if_neg hln, if_pos hdt, dg9_de, ← hde]) | (unfold tv9; rw [if_neg (by omega), if_neg (by omega)]; first | (rw [if_pos (by omega)]; done) | (rw [if_neg (by omega), if_pos (by omega)]; done) | (rw [if_neg (by omega), if_neg (by omega), if_pos (by omega)]; done) | (rw [if_neg (by omega), if_neg (by omega), if_neg (by omega), if_pos (by omega)]; done) | (rw [if_neg (by omega), if_neg (by omega), if_neg (by omega), if_neg (by omega), if_pos (by omega)]; done) | (rw [if_neg (by omega), if_neg (by omega), if_neg (by omega), if_neg (by omega), if_neg (by omega)]; done))) rfl dX5_tokenOf_71
      · subst q
        refine hv_tableIn C 72 ⟨by decide, by decide⟩ dX5_tokenOf_35 (by decide) (by decide) rfl (by decide) ?_
        refine hv_iconst C dX5_tokenOf_72 ?_
        exact zt_iret C hr hlk (by first | (unfold tv9; rw [if_pos hlt]; exact wr_wo hT (by omega) hlt hle) | (unfold tv9; rw [if_neg hln, if_pos hdt, dg9_de, ← hde]) | (unfold tv9; rw [if_neg (by omega), if_neg (by omega)]; first | (rw [if_pos (by omega)]; done) | (rw [if_neg (by omega), if_pos (by omega)]; done) | (rw [if_neg (by omega), if_neg (by omega), if_pos (by omega)]; done) | (rw [if_neg (by omega), if_neg (by omega), if_neg (by omega), if_pos (by omega)]; done) | (rw [if_neg (by omega), if_neg (by omega), if_neg (by omega), if_neg (by omega), if_pos (by omega)]; done) | (rw [if_neg (by omega), if_neg (by omega), if_neg (by omega), if_neg (by omega), if_neg (by omega)]; done))) rfl dX5_tokenOf_73
      · subst q
        refine hv_tableIn C 74 ⟨by decide, by decide⟩ dX5_tokenOf_35 (by decide) (by decide) rfl (by decide) ?_
        refine hv_iconst C dX5_tokenOf_74 ?_
        exact zt_iret C hr hlk (by first | (unfold tv9; rw [if_pos hlt]; exact wr_wo hT (by omega) hlt hle) | (unfold tv9; rw [if_neg hln, if_pos hdt, dg9_de, ← hde]) | (unfold tv9; rw [if_neg (by omega), if_neg (by omega)]; first | (rw [if_pos (by omega)]; done) | (rw [if_neg (by omega), if_pos (by omega)]; done) | (rw [if_neg (by omega), if_neg (by omega), if_pos (by omega)]; done) | (rw [if_neg (by omega), if_neg (by omega), if_neg (by omega), if_pos (by omega)]; done) | (rw [if_neg (by omega), if_neg (by omega), if_neg (by omega), if_neg (by omega), if_pos (by omega)]; done) | (rw [if_neg (by omega), if_neg (by omega), if_neg (by omega), if_neg (by omega), if_neg (by omega)]; done))) rfl dX5_tokenOf_75
      · subst q
        refine hv_tableIn C 76 ⟨by decide, by decide⟩ dX5_tokenOf_35 (by decide) (by decide) rfl (by decide) ?_
        refine hv_bipush C dX5_tokenOf_76 (by decide) ?_
        exact zt_iret C hr hlk (by first | (unfold tv9; rw [if_pos hlt]; exact wr_wo hT (by omega) hlt hle) | (unfold tv9; rw [if_neg hln, if_pos hdt, dg9_de, ← hde]) | (unfold tv9; rw [if_neg (by omega), if_neg (by omega)]; first | (rw [if_pos (by omega)]; done) | (rw [if_neg (by omega), if_pos (by omega)]; done) | (rw [if_neg (by omega), if_neg (by omega), if_pos (by omega)]; done) | (rw [if_neg (by omega), if_neg (by omega), if_neg (by omega), if_pos (by omega)]; done) | (rw [if_neg (by omega), if_neg (by omega), if_neg (by omega), if_neg (by omega), if_pos (by omega)]; done) | (rw [if_neg (by omega), if_neg (by omega), if_neg (by omega), if_neg (by omega), if_neg (by omega)]; done))) rfl dX5_tokenOf_78
      · skip
        refine hv_tableOut C 79 (by omega) dX5_tokenOf_35 q (by decide) ?_
        refine hv_iconst C dX5_tokenOf_79 ?_
        exact zt_iret C hr hlk (by first | (unfold tv9; rw [if_pos hlt]; exact wr_wo hT (by omega) hlt hle) | (unfold tv9; rw [if_neg hln, if_pos hdt, dg9_de, ← hde]) | (unfold tv9; rw [if_neg (by omega), if_neg (by omega)]; first | (rw [if_pos (by omega)]; done) | (rw [if_neg (by omega), if_pos (by omega)]; done) | (rw [if_neg (by omega), if_neg (by omega), if_pos (by omega)]; done) | (rw [if_neg (by omega), if_neg (by omega), if_neg (by omega), if_pos (by omega)]; done) | (rw [if_neg (by omega), if_neg (by omega), if_neg (by omega), if_neg (by omega), if_pos (by omega)]; done) | (rw [if_neg (by omega), if_neg (by omega), if_neg (by omega), if_neg (by omega), if_neg (by omega)]; done))) rfl dX5_tokenOf_80
    · skip
      have hdt : (48 ≤ by9 A ln fm ∧ by9 A ln fm ≤ 57) := by omega
      have hln : ¬ (97 ≤ by9 A ln fm ∧ by9 A ln fm ≤ 122) := by omega
      have hde : (to9 : Int) = de9 A ln fm := by rw [ht9, te9, if_neg hln, if_pos hdt]; conv => rhs; rw [de9_eq, if_pos hdt]
      refine hv_aload_n C 0 0 dX5_tokenOf_25 rfl rfl ?_
      refine hv_iload_n C 1 1 dX5_tokenOf_26 rfl rfl ?_
      refine hv_iload_n C 2 2 dX5_tokenOf_27 rfl rfl ?_
      refine zt_callS [.ref (b + 9), .int (iz ((fm : Nat) : Int)), .int (iz ((to9 : Nat) : Int))] [] C K (k_X5_numberToken l A ln τ fm to9 hT (by omega) hde) ck_X5_55 ⟨by dsimp only; omega, by dsimp only; omega⟩ ⟨Nat.zero_le _, Nat.zero_le _⟩ rfl (Nat.le_of_ble_eq_true rfl) dX5_tokenOf_28 ?_
      refine hv_as ((if 4 < (to9 : Int) - fm then 1 else 100 + (dg9 A ln fm fm 0).2)) rfl ?_
      exact zt_iret C hr hlk (by first | (unfold tv9; rw [if_pos hlt]; exact wr_wo hT (by omega) hlt hle) | (unfold tv9; rw [if_neg hln, if_pos hdt, dg9_de, ← hde]) | (unfold tv9; rw [if_neg (by omega), if_neg (by omega)]; first | (rw [if_pos (by omega)]; done) | (rw [if_neg (by omega), if_pos (by omega)]; done) | (rw [if_neg (by omega), if_neg (by omega), if_pos (by omega)]; done) | (rw [if_neg (by omega), if_neg (by omega), if_neg (by omega), if_pos (by omega)]; done) | (rw [if_neg (by omega), if_neg (by omega), if_neg (by omega), if_neg (by omega), if_pos (by omega)]; done) | (rw [if_neg (by omega), if_neg (by omega), if_neg (by omega), if_neg (by omega), if_neg (by omega)]; done))) rfl dX5_tokenOf_31
  · skip
    have hlt : (97 ≤ by9 A ln fm ∧ by9 A ln fm ≤ 122) := by omega
    have hle : (to9 : Int) = le9 A ln fm := by rw [ht9, te9, if_pos hlt]; conv => rhs; rw [le9_eq, if_pos hlt]
    refine hv_aload_n C 0 0 dX5_tokenOf_9 rfl rfl ?_
    refine hv_iload_n C 1 1 dX5_tokenOf_10 rfl rfl ?_
    refine hv_iload_n C 2 2 dX5_tokenOf_11 rfl rfl ?_
    refine zto_callS [.ref (b + 9), .int (iz ((fm : Nat) : Int)), .int (iz ((to9 : Nat) : Int))] [] C K O (k_X5_wordToken l A ln τ fm to9 hT (by omega) htx) ck_X5_52 ⟨by dsimp only; omega, by dsimp only; omega⟩ ⟨Nat.zero_le _, Nat.zero_le _⟩ rfl (Nat.le_of_ble_eq_true rfl) dX5_tokenOf_12 ?_
    refine hv_as ((wr9 (τ 9) fm to9 wch 8 fm true)) rfl ?_
    exact zt_iret C hr hlk (by first | (unfold tv9; rw [if_pos hlt]; exact wr_wo hT (by omega) hlt hle) | (unfold tv9; rw [if_neg hln, if_pos hdt, dg9_de, ← hde]) | (unfold tv9; rw [if_neg (by omega), if_neg (by omega)]; first | (rw [if_pos (by omega)]; done) | (rw [if_neg (by omega), if_pos (by omega)]; done) | (rw [if_neg (by omega), if_neg (by omega), if_pos (by omega)]; done) | (rw [if_neg (by omega), if_neg (by omega), if_neg (by omega), if_pos (by omega)]; done) | (rw [if_neg (by omega), if_neg (by omega), if_neg (by omega), if_neg (by omega), if_pos (by omega)]; done) | (rw [if_neg (by omega), if_neg (by omega), if_neg (by omega), if_neg (by omega), if_neg (by omega)]; done))) rfl dX5_tokenOf_15
