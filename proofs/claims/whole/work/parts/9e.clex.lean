/-! the class's reader: bytes, blanks, ends of words and numbers -/
theorem sb_v {x : Int} (h : 0 ≤ x ∧ x ≤ 255) : (x ≤ 127 ∧ sb9 x = x) ∨ (128 ≤ x ∧ sb9 x = x - 256) := by
  unfold sb9
  rw [Int8.toInt_toInt32, Int32.toInt_toInt8, iz_toInt (by omega)]
  by_cases c : x ≤ 127
  · exact Or.inl ⟨c, by rw [Int.bmod_def]; split <;> omega⟩
  · exact Or.inr ⟨by omega, by rw [Int.bmod_def]; split <;> omega⟩
/-- the class's tape holds the reference's bytes -/
def tpr (A : Nat → Int) (ln : Nat) (t : Nat → Int) : Prop := ∀ i : Nat, i < ln → t i = sb9 (A (1760 + i)) ∧ 0 ≤ A (1760 + i) ∧ A (1760 + i) ≤ 255
theorem tp_at {A t : Nat → Int} {ln : Nat} (h : tpr A ln t) (q : Nat) (hq : q < ln) : (0 ≤ by9 A ln q ∧ by9 A ln q ≤ 255) ∧ ((by9 A ln q ≤ 127 ∧ t q = by9 A ln q) ∨ (128 ≤ by9 A ln q ∧ t q = by9 A ln q - 256)) := by
  obtain ⟨h1, h2⟩ := h q hq
  have e : by9 A ln q = A (1760 + q) := by unfold by9; rw [if_pos (by omega), Int.toNat_natCast]
  rw [e, h1]
  refine ⟨h2, ?_⟩
  rcases sb_v h2 with ⟨a, b⟩ | ⟨a, b⟩
  · exact Or.inl ⟨a, b⟩
  · exact Or.inr ⟨a, b⟩
theorem by9_n {A : Nat → Int} {n q : Int} (h : ¬ q < n) : by9 A n q = -1 := if_neg h
/-- where the letters end; where the digits end -/
def le9f (A : Nat → Int) (n : Int) : Nat → Int → Int
  | 0, q => q
  | f + 1, q => if 97 ≤ by9 A n q ∧ by9 A n q ≤ 122 then le9f A n f (q + 1) else q
def le9 (A : Nat → Int) (n q : Int) : Int := le9f A n (n - q).toNat q
theorem le9_eq (A : Nat → Int) (n q : Int) : le9 A n q = if 97 ≤ by9 A n q ∧ by9 A n q ≤ 122 then le9 A n (q + 1) else q := by
  unfold le9
  split
  · next h =>
    have z := by9_lt (A := A) (n := n) (q := q) (by omega)
    have e : (n - q).toNat = (n - (q + 1)).toNat + 1 := by omega
    rw [e]
    conv => lhs; unfold le9f
    rw [if_pos h]
  · next h =>
    rcases hz : (n - q).toNat with _ | f
    · rfl
    · unfold le9f
      rw [if_neg h]
theorem lt_le (A : Nat → Int) (n p : Int) : ∀ (f : Nat) (q v : Int), (lt9f A n p f q v).1 = le9f A n f q
  | 0, q, v => rfl
  | f + 1, q, v => by
    unfold lt9f le9f
    split
    · exact lt_le A n p f _ _
    · rfl
theorem lt9_le (A : Nat → Int) (n p q v : Int) : (lt9 A n p q v).1 = le9 A n q := lt_le A n p _ q v
def de9f (A : Nat → Int) (n : Int) : Nat → Int → Int
  | 0, q => q
  | f + 1, q => if 48 ≤ by9 A n q ∧ by9 A n q ≤ 57 then de9f A n f (q + 1) else q
def de9 (A : Nat → Int) (n q : Int) : Int := de9f A n (n - q).toNat q
theorem de9_eq (A : Nat → Int) (n q : Int) : de9 A n q = if 48 ≤ by9 A n q ∧ by9 A n q ≤ 57 then de9 A n (q + 1) else q := by
  unfold de9
  split
  · next h =>
    have z := by9_lt (A := A) (n := n) (q := q) (by omega)
    have e : (n - q).toNat = (n - (q + 1)).toNat + 1 := by omega
    rw [e]
    conv => lhs; unfold de9f
    rw [if_pos h]
  · next h =>
    rcases hz : (n - q).toNat with _ | f
    · rfl
    · unfold de9f
      rw [if_neg h]
theorem dg_de (A : Nat → Int) (n p : Int) : ∀ (f : Nat) (q v : Int), (dg9f A n p f q v).1 = de9f A n f q
  | 0, q, v => rfl
  | f + 1, q, v => by
    unfold dg9f de9f
    split
    · exact dg_de A n p f _ _
    · rfl
theorem dg9_de (A : Nat → Int) (n p q v : Int) : (dg9 A n p q v).1 = de9 A n q := dg_de A n p _ q v
/-- where the token that begins at p ends -/
def te9 (A : Nat → Int) (n p : Int) : Int := if 97 ≤ by9 A n p ∧ by9 A n p ≤ 122 then le9 A n (p + 1) else if 48 ≤ by9 A n p ∧ by9 A n p ≤ 57 then de9 A n (p + 1) else p + 1
theorem le9f_r (A : Nat → Int) (n : Int) : ∀ (f : Nat) (q : Int), q ≤ le9f A n f q ∧ le9f A n f q ≤ q + f
  | 0, q => ⟨Int.le_refl _, by show q ≤ q + 0; omega⟩
  | f + 1, q => by
    unfold le9f
    split
    · have := le9f_r A n f (q + 1); omega
    · omega
theorem de9f_r (A : Nat → Int) (n : Int) : ∀ (f : Nat) (q : Int), q ≤ de9f A n f q ∧ de9f A n f q ≤ q + f
  | 0, q => ⟨Int.le_refl _, by show q ≤ q + 0; omega⟩
  | f + 1, q => by
    unfold de9f
    split
    · have := de9f_r A n f (q + 1); omega
    · omega
theorem le9_r {A : Nat → Int} {n q : Int} (h : q ≤ n) : q ≤ le9 A n q ∧ le9 A n q ≤ n := by
  have := le9f_r A n (n - q).toNat q
  unfold le9; omega
theorem de9_r {A : Nat → Int} {n q : Int} (h : q ≤ n) : q ≤ de9 A n q ∧ de9 A n q ≤ n := by
  have := de9f_r A n (n - q).toNat q
  unfold de9; omega
theorem te9_r {A : Nat → Int} {n p : Int} (h : p < n) : p < te9 A n p ∧ te9 A n p ≤ n := by
  have h1 := le9_r (A := A) (n := n) (q := p + 1) (by omega)
  have h2 := de9_r (A := A) (n := n) (q := p + 1) (by omega)
  unfold te9
  split
  · omega
  · split <;> omega

theorem dX5_isLetter_0 : decode cX5_isLetter 0 = .ok (.iload_n 0, 1) := by decide +kernel
theorem dX5_isLetter_1 : decode cX5_isLetter 1 = .ok (.bipush 97, 2) := by decide +kernel
theorem dX5_isLetter_3 : decode cX5_isLetter 3 = .ok (.if_icmp .lt 13, 3) := by decide +kernel
theorem dX5_isLetter_6 : decode cX5_isLetter 6 = .ok (.iload_n 0, 1) := by decide +kernel
theorem dX5_isLetter_7 : decode cX5_isLetter 7 = .ok (.bipush 122, 2) := by decide +kernel
theorem dX5_isLetter_9 : decode cX5_isLetter 9 = .ok (.if_icmp .gt 7, 3) := by decide +kernel
theorem dX5_isLetter_12 : decode cX5_isLetter 12 = .ok (.iconst 1, 1) := by decide +kernel
theorem dX5_isLetter_13 : decode cX5_isLetter 13 = .ok (.goto 4, 3) := by decide +kernel
theorem dX5_isLetter_16 : decode cX5_isLetter 16 = .ok (.iconst 0, 1) := by decide +kernel
theorem dX5_isLetter_17 : decode cX5_isLetter 17 = .ok (.ireturn, 1) := by decide +kernel
set_option maxRecDepth 100000 in
set_option maxHeartbeats 4000000 in
theorem k_X5_isLetter (l : Launch) {D : va_G} {ar : Nat → ClassId} {B : Nat → Prop} {b n : Nat} {w0 : zcW}  (τ : Nat → Nat → Int) (v : Int) (r_v : inI v) : zt_M l D ar B b w0 n yX5_isLetter cX5_isLetter 1 (some .boolean) 0 0 [.int (iz v)] τ (some (.int (iz (xb (decide (97 ≤ v ∧ v ≤ 122)))))) (τ) := by
  refine zc_start (own := RX5) (by decide +kernel) rfl (Nat.le_of_ble_eq_true rfl) ?_
  intro p e s m args below meth c C K hr hlk hnam
  refine hv_iload_n C 0 0 dX5_isLetter_0 rfl rfl ?_
  refine hv_bipush C dX5_isLetter_1 (by decide) ?_
  refine hv_icmp_lt C 16 dX5_isLetter_3 (by decide) (by omega) (by omega) (fun h3 => ?_) (fun h3 => ?_)
  · skip
    refine hv_iconst C dX5_isLetter_16 ?_
    exact zt_zret C hr hlk ((xb_f (decide_eq_false (by omega))).symm) rfl dX5_isLetter_17
  · skip
    refine hv_iload_n C 0 0 dX5_isLetter_6 rfl rfl ?_
    refine hv_bipush C dX5_isLetter_7 (by decide) ?_
    refine hv_icmp_gt C 16 dX5_isLetter_9 (by decide) (by omega) (by omega) (fun h9 => ?_) (fun h9 => ?_)
    · skip
      refine hv_iconst C dX5_isLetter_16 ?_
      exact zt_zret C hr hlk ((xb_f (decide_eq_false (by omega))).symm) rfl dX5_isLetter_17
    · skip
      refine hv_iconst C dX5_isLetter_12 ?_
      refine hv_goto C 17 dX5_isLetter_13 (by decide) ?_
      exact zt_zret C hr hlk ((xb_t (decide_eq_true (by omega))).symm) rfl dX5_isLetter_17
theorem dX5_isDigit_0 : decode cX5_isDigit 0 = .ok (.iload_n 0, 1) := by decide +kernel
theorem dX5_isDigit_1 : decode cX5_isDigit 1 = .ok (.bipush 48, 2) := by decide +kernel
theorem dX5_isDigit_3 : decode cX5_isDigit 3 = .ok (.if_icmp .lt 13, 3) := by decide +kernel
theorem dX5_isDigit_6 : decode cX5_isDigit 6 = .ok (.iload_n 0, 1) := by decide +kernel
theorem dX5_isDigit_7 : decode cX5_isDigit 7 = .ok (.bipush 57, 2) := by decide +kernel
theorem dX5_isDigit_9 : decode cX5_isDigit 9 = .ok (.if_icmp .gt 7, 3) := by decide +kernel
theorem dX5_isDigit_12 : decode cX5_isDigit 12 = .ok (.iconst 1, 1) := by decide +kernel
theorem dX5_isDigit_13 : decode cX5_isDigit 13 = .ok (.goto 4, 3) := by decide +kernel
theorem dX5_isDigit_16 : decode cX5_isDigit 16 = .ok (.iconst 0, 1) := by decide +kernel
theorem dX5_isDigit_17 : decode cX5_isDigit 17 = .ok (.ireturn, 1) := by decide +kernel
set_option maxRecDepth 100000 in
set_option maxHeartbeats 4000000 in
theorem k_X5_isDigit (l : Launch) {D : va_G} {ar : Nat → ClassId} {B : Nat → Prop} {b n : Nat} {w0 : zcW}  (τ : Nat → Nat → Int) (v : Int) (r_v : inI v) : zt_M l D ar B b w0 n yX5_isDigit cX5_isDigit 1 (some .boolean) 0 0 [.int (iz v)] τ (some (.int (iz (xb (decide (48 ≤ v ∧ v ≤ 57)))))) (τ) := by
  refine zc_start (own := RX5) (by decide +kernel) rfl (Nat.le_of_ble_eq_true rfl) ?_
  intro p e s m args below meth c C K hr hlk hnam
  refine hv_iload_n C 0 0 dX5_isDigit_0 rfl rfl ?_
  refine hv_bipush C dX5_isDigit_1 (by decide) ?_
  refine hv_icmp_lt C 16 dX5_isDigit_3 (by decide) (by omega) (by omega) (fun h3 => ?_) (fun h3 => ?_)
  · skip
    refine hv_iconst C dX5_isDigit_16 ?_
    exact zt_zret C hr hlk ((xb_f (decide_eq_false (by omega))).symm) rfl dX5_isDigit_17
  · skip
    refine hv_iload_n C 0 0 dX5_isDigit_6 rfl rfl ?_
    refine hv_bipush C dX5_isDigit_7 (by decide) ?_
    refine hv_icmp_gt C 16 dX5_isDigit_9 (by decide) (by omega) (by omega) (fun h9 => ?_) (fun h9 => ?_)
    · skip
      refine hv_iconst C dX5_isDigit_16 ?_
      exact zt_zret C hr hlk ((xb_f (decide_eq_false (by omega))).symm) rfl dX5_isDigit_17
    · skip
      refine hv_iconst C dX5_isDigit_12 ?_
      refine hv_goto C 17 dX5_isDigit_13 (by decide) ?_
      exact zt_zret C hr hlk ((xb_t (decide_eq_true (by omega))).symm) rfl dX5_isDigit_17
theorem dX5_skipBlanks_0 : decode cX5_skipBlanks 0 = .ok (.iload_n 1, 1) := by decide +kernel
theorem dX5_skipBlanks_1 : decode cX5_skipBlanks 1 = .ok (.istore_n 3, 1) := by decide +kernel
theorem dX5_skipBlanks_2 : decode cX5_skipBlanks 2 = .ok (.iload_n 3, 1) := by decide +kernel
theorem dX5_skipBlanks_3 : decode cX5_skipBlanks 3 = .ok (.iload_n 2, 1) := by decide +kernel
theorem dX5_skipBlanks_4 : decode cX5_skipBlanks 4 = .ok (.if_icmp .ge 25, 3) := by decide +kernel
theorem dX5_skipBlanks_7 : decode cX5_skipBlanks 7 = .ok (.aload_n 0, 1) := by decide +kernel
theorem dX5_skipBlanks_8 : decode cX5_skipBlanks 8 = .ok (.iload_n 3, 1) := by decide +kernel
theorem dX5_skipBlanks_9 : decode cX5_skipBlanks 9 = .ok (.baload, 1) := by decide +kernel
theorem dX5_skipBlanks_10 : decode cX5_skipBlanks 10 = .ok (.bipush 10, 2) := by decide +kernel
theorem dX5_skipBlanks_12 : decode cX5_skipBlanks 12 = .ok (.if_icmp .eq 11, 3) := by decide +kernel
theorem dX5_skipBlanks_15 : decode cX5_skipBlanks 15 = .ok (.aload_n 0, 1) := by decide +kernel
theorem dX5_skipBlanks_16 : decode cX5_skipBlanks 16 = .ok (.iload_n 3, 1) := by decide +kernel
theorem dX5_skipBlanks_17 : decode cX5_skipBlanks 17 = .ok (.baload, 1) := by decide +kernel
theorem dX5_skipBlanks_18 : decode cX5_skipBlanks 18 = .ok (.bipush 32, 2) := by decide +kernel
theorem dX5_skipBlanks_20 : decode cX5_skipBlanks 20 = .ok (.if_icmp .ne 9, 3) := by decide +kernel
theorem dX5_skipBlanks_23 : decode cX5_skipBlanks 23 = .ok (.iinc 3 1, 3) := by decide +kernel
theorem dX5_skipBlanks_26 : decode cX5_skipBlanks 26 = .ok (.goto (-24), 3) := by decide +kernel
theorem dX5_skipBlanks_29 : decode cX5_skipBlanks 29 = .ok (.iload_n 3, 1) := by decide +kernel
theorem dX5_skipBlanks_30 : decode cX5_skipBlanks 30 = .ok (.ireturn, 1) := by decide +kernel
set_option maxRecDepth 100000 in
set_option maxHeartbeats 4000000 in
theorem k_X5_skipBlanks (l : Launch) {D : va_G} {ar : Nat → ClassId} {B : Nat → Prop} {b n : Nat} {w0 : zcW} (A : Nat → Int) (τ : Nat → Nat → Int) (fm : Nat) (ln : Nat) (hT : tpr A ln (τ 9)) (hr9 : fm ≤ ln ∧ ln ≤ 500) : zt_M l D ar B b w0 n yX5_skipBlanks cX5_skipBlanks 4 (some .int) 0 0 [.ref (b + 9), .int (iz ((fm : Nat) : Int)), .int (iz ((ln : Nat) : Int))] τ (some (.int (iz (sk9 A ln fm)))) (τ) := by
  refine zc_start (own := RX5) (by decide +kernel) rfl (Nat.le_of_ble_eq_true rfl) ?_
  intro p e s m args below meth c C K hr hlk hnam
  refine hv_iload_n C 1 1 dX5_skipBlanks_0 rfl rfl ?_
  refine hv_istore_n C 3 [(3, .int (iz ((fm : Nat) : Int))), (0, .ref (b + 9)), (1, .int (iz ((fm : Nat) : Int))), (2, .int (iz ((ln : Nat) : Int)))] dX5_skipBlanks_1 rfl (by decide) rfl ?_
  have L2 : ∀ (f : Nat) (q : Nat), ln - q < f → (fm ≤ q ∧ q ≤ ln) → (sk9 A ln fm = sk9 A ln q) → hvV p l e { frames := 0, cells := 0, slots := 0, locals := 0 } s m args below meth c 4 B 0 0 (MQ below (zc_Q D B (fun r' w' n' => r' = (some (.int (iz (sk9 A ln fm)))) ∧ w' = cw ar b (τ) w0 ∧ n' = n)) args s 0 0 B) (zc_I D B (cw ar b τ w0) n s.heap) 2 [(0, .ref (b + 9)), (1, .int (iz ((fm : Nat) : Int))), (2, .int (iz ((ln : Nat) : Int))), (3, .int (iz ((q : Nat) : Int)))] [] := by
    intro f
    induction f with
    | zero => intro _ hm; exact absurd hm (Nat.not_lt_zero _)
    | succ f ih2 =>
      intro q hm2 hq he
      refine hv_iload_n C 3 3 dX5_skipBlanks_2 rfl rfl ?_
      refine hv_iload_n C 2 2 dX5_skipBlanks_3 rfl rfl ?_
      refine hv_icmp_ge C 29 dX5_skipBlanks_4 (by decide) (by omega) (by omega) (fun h4 => ?_) (fun h4 => ?_)
      · skip
        refine hv_iload_n C 3 3 dX5_skipBlanks_29 rfl rfl ?_
        exact zt_iret C hr hlk (by rw [he, sk9_eq, if_neg (by first | omega | (rw [by9_n (by omega)]; decide))]) rfl dX5_skipBlanks_30
      · skip
        have bq := tp_at hT q (by omega)
        refine hv_aload_n C 0 0 dX5_skipBlanks_7 rfl rfl ?_
        refine hv_iload_n C 3 3 dX5_skipBlanks_8 rfl rfl ?_
        refine zc_bald C K (f := (τ 9)) q (cw_at 9 rfl) (by omega) (by omega) (by decide) dX5_skipBlanks_9 ?_
        refine hv_as (τ 9 q) rfl ?_
        refine hv_nm (fun x1 ex1 => ?_)
        have rx1 : inI x1 := by rw [ex1]; exact (by omega)
        refine hv_bipush C dX5_skipBlanks_10 (by decide) ?_
        refine hv_icmp_eq C 23 dX5_skipBlanks_12 (by decide) (by omega) (by omega) (fun h12 => ?_) (fun h12 => ?_)
        · skip
          refine hv_iinc C 3 3 [(3, .int (iz (((q : Nat) : Int) + 1))), (0, .ref (b + 9)), (1, .int (iz ((fm : Nat) : Int))), (2, .int (iz ((ln : Nat) : Int)))] dX5_skipBlanks_23 rfl (by decide) rfl ?_
          refine hv_goto C 2 dX5_skipBlanks_26 (by decide) ?_
          refine hv_loc [1, 2, 3, 0] [(0, .ref (b + 9)), (1, .int (iz ((fm : Nat) : Int))), (2, .int (iz ((ln : Nat) : Int))), (3, .int (iz (((q : Nat) : Int) + 1)))] rfl ?_
          exact ih2 (q + 1) (by omega) (by omega) (by rw [he, sk9_eq, if_pos (by omega)]; rfl)
        · skip
          refine hv_aload_n C 0 0 dX5_skipBlanks_15 rfl rfl ?_
          refine hv_iload_n C 3 3 dX5_skipBlanks_16 rfl rfl ?_
          refine zc_bald C K (f := (τ 9)) q (cw_at 9 rfl) (by omega) (by omega) (by decide) dX5_skipBlanks_17 ?_
          refine hv_as (τ 9 q) rfl ?_
          refine hv_nm (fun x2 ex2 => ?_)
          have rx2 : inI x2 := by rw [ex2]; exact (by omega)
          refine hv_bipush C dX5_skipBlanks_18 (by decide) ?_
          refine hv_icmp_ne C 29 dX5_skipBlanks_20 (by decide) (by omega) (by omega) (fun h20 => ?_) (fun h20 => ?_)
          · skip
            refine hv_iload_n C 3 3 dX5_skipBlanks_29 rfl rfl ?_
            exact zt_iret C hr hlk (by rw [he, sk9_eq, if_neg (by first | omega | (rw [by9_n (by omega)]; decide))]) rfl dX5_skipBlanks_30
          · skip
            refine hv_iinc C 3 3 [(3, .int (iz (((q : Nat) : Int) + 1))), (0, .ref (b + 9)), (1, .int (iz ((fm : Nat) : Int))), (2, .int (iz ((ln : Nat) : Int)))] dX5_skipBlanks_23 rfl (by decide) rfl ?_
            refine hv_goto C 2 dX5_skipBlanks_26 (by decide) ?_
            refine hv_loc [1, 2, 3, 0] [(0, .ref (b + 9)), (1, .int (iz ((fm : Nat) : Int))), (2, .int (iz ((ln : Nat) : Int))), (3, .int (iz (((q : Nat) : Int) + 1)))] rfl ?_
            exact ih2 (q + 1) (by omega) (by omega) (by rw [he, sk9_eq, if_pos (by omega)]; rfl)
  refine hv_loc [1, 2, 3, 0] [(0, .ref (b + 9)), (1, .int (iz ((fm : Nat) : Int))), (2, .int (iz ((ln : Nat) : Int))), (3, .int (iz ((fm : Nat) : Int)))] rfl ?_
  exact L2 _ fm (Nat.lt_succ_self _) (by omega) rfl
theorem dX5_tokenEnd_0 : decode cX5_tokenEnd 0 = .ok (.iload_n 1, 1) := by decide +kernel
theorem dX5_tokenEnd_1 : decode cX5_tokenEnd 1 = .ok (.iconst 1, 1) := by decide +kernel
theorem dX5_tokenEnd_2 : decode cX5_tokenEnd 2 = .ok (.iadd, 1) := by decide +kernel
theorem dX5_tokenEnd_3 : decode cX5_tokenEnd 3 = .ok (.istore_n 3, 1) := by decide +kernel
theorem dX5_tokenEnd_4 : decode cX5_tokenEnd 4 = .ok (.iload_n 3, 1) := by decide +kernel
theorem dX5_tokenEnd_5 : decode cX5_tokenEnd 5 = .ok (.iload_n 2, 1) := by decide +kernel
theorem dX5_tokenEnd_6 : decode cX5_tokenEnd 6 = .ok (.if_icmp .ge 45, 3) := by decide +kernel
theorem dX5_tokenEnd_9 : decode cX5_tokenEnd 9 = .ok (.aload_n 0, 1) := by decide +kernel
theorem dX5_tokenEnd_10 : decode cX5_tokenEnd 10 = .ok (.iload_n 1, 1) := by decide +kernel
theorem dX5_tokenEnd_11 : decode cX5_tokenEnd 11 = .ok (.baload, 1) := by decide +kernel
theorem dX5_tokenEnd_12 : decode cX5_tokenEnd 12 = .ok (.invokestatic 45, 3) := by decide +kernel
theorem dX5_tokenEnd_15 : decode cX5_tokenEnd 15 = .ok (.ifCond .eq 12, 3) := by decide +kernel
theorem dX5_tokenEnd_18 : decode cX5_tokenEnd 18 = .ok (.aload_n 0, 1) := by decide +kernel
theorem dX5_tokenEnd_19 : decode cX5_tokenEnd 19 = .ok (.iload_n 3, 1) := by decide +kernel
theorem dX5_tokenEnd_20 : decode cX5_tokenEnd 20 = .ok (.baload, 1) := by decide +kernel
theorem dX5_tokenEnd_21 : decode cX5_tokenEnd 21 = .ok (.invokestatic 45, 3) := by decide +kernel
theorem dX5_tokenEnd_24 : decode cX5_tokenEnd 24 = .ok (.ifCond .ne 21, 3) := by decide +kernel
theorem dX5_tokenEnd_27 : decode cX5_tokenEnd 27 = .ok (.aload_n 0, 1) := by decide +kernel
theorem dX5_tokenEnd_28 : decode cX5_tokenEnd 28 = .ok (.iload_n 1, 1) := by decide +kernel
theorem dX5_tokenEnd_29 : decode cX5_tokenEnd 29 = .ok (.baload, 1) := by decide +kernel
theorem dX5_tokenEnd_30 : decode cX5_tokenEnd 30 = .ok (.invokestatic 49, 3) := by decide +kernel
theorem dX5_tokenEnd_33 : decode cX5_tokenEnd 33 = .ok (.ifCond .eq 18, 3) := by decide +kernel
theorem dX5_tokenEnd_36 : decode cX5_tokenEnd 36 = .ok (.aload_n 0, 1) := by decide +kernel
theorem dX5_tokenEnd_37 : decode cX5_tokenEnd 37 = .ok (.iload_n 3, 1) := by decide +kernel
theorem dX5_tokenEnd_38 : decode cX5_tokenEnd 38 = .ok (.baload, 1) := by decide +kernel
theorem dX5_tokenEnd_39 : decode cX5_tokenEnd 39 = .ok (.invokestatic 49, 3) := by decide +kernel
theorem dX5_tokenEnd_42 : decode cX5_tokenEnd 42 = .ok (.ifCond .eq 9, 3) := by decide +kernel
theorem dX5_tokenEnd_45 : decode cX5_tokenEnd 45 = .ok (.iinc 3 1, 3) := by decide +kernel
theorem dX5_tokenEnd_48 : decode cX5_tokenEnd 48 = .ok (.goto (-44), 3) := by decide +kernel
theorem dX5_tokenEnd_51 : decode cX5_tokenEnd 51 = .ok (.iload_n 3, 1) := by decide +kernel
theorem dX5_tokenEnd_52 : decode cX5_tokenEnd 52 = .ok (.ireturn, 1) := by decide +kernel
theorem ck_X5_45 : zcS RX5 yX5_isLetter cX5_isLetter 1 (some .boolean) 45 1 := ⟨hk_tq3 196 (by decide +kernel) (by decide +kernel), hk_tq3 194 (by decide +kernel) (by decide +kernel), hk_tq1 10 (by decide +kernel) (by decide +kernel), ⟨by decide, by decide, by decide +kernel⟩, hk_tq3 195 (by decide +kernel) (by decide +kernel)⟩
theorem ck_X5_49 : zcS RX5 yX5_isDigit cX5_isDigit 1 (some .boolean) 49 1 := ⟨hk_tq3 199 (by decide +kernel) (by decide +kernel), hk_tq3 197 (by decide +kernel) (by decide +kernel), hk_tq1 10 (by decide +kernel) (by decide +kernel), ⟨by decide, by decide, by decide +kernel⟩, hk_tq3 198 (by decide +kernel) (by decide +kernel)⟩
set_option maxRecDepth 100000 in
set_option maxHeartbeats 4000000 in
theorem k_X5_tokenEnd (l : Launch) {D : va_G} {ar : Nat → ClassId} {B : Nat → Prop} {b n : Nat} {w0 : zcW} (A : Nat → Int) (τ : Nat → Nat → Int) (fm : Nat) (ln : Nat) (hT : tpr A ln (τ 9)) (hr9 : fm < ln ∧ ln ≤ 500) : zt_M l D ar B b w0 n yX5_tokenEnd cX5_tokenEnd 4 (some .int) 1 20 [.ref (b + 9), .int (iz ((fm : Nat) : Int)), .int (iz ((ln : Nat) : Int))] τ (some (.int (iz (te9 A ln fm)))) (τ) := by
  refine zc_start (own := RX5) (by decide +kernel) rfl (Nat.le_of_ble_eq_true rfl) ?_
  intro p e s m args below meth c C K hr hlk hnam
  have bfm := tp_at hT fm (by omega)
  refine hv_iload_n C 1 1 dX5_tokenEnd_0 rfl rfl ?_
  refine hv_iconst C dX5_tokenEnd_1 ?_
  refine hv_iadd C dX5_tokenEnd_2 ?_
  refine hv_istore_n C 3 [(3, .int (iz (((fm : Nat) : Int) + 1))), (0, .ref (b + 9)), (1, .int (iz ((fm : Nat) : Int))), (2, .int (iz ((ln : Nat) : Int)))] dX5_tokenEnd_3 rfl (by decide) rfl ?_
  have L4 : ∀ (f : Nat) (q : Nat), ln - q < f → (fm + 1 ≤ q ∧ q ≤ ln) → ((97 ≤ by9 A ln fm ∧ by9 A ln fm ≤ 122) → le9 A ln (fm + 1) = le9 A ln q) → ((48 ≤ by9 A ln fm ∧ by9 A ln fm ≤ 57) → de9 A ln (fm + 1) = de9 A ln q) → ((97 ≤ by9 A ln fm ∧ by9 A ln fm ≤ 122) ∨ (48 ≤ by9 A ln fm ∧ by9 A ln fm ≤ 57) ∨ q = fm + 1) → hvV p l e { frames := 1, cells := 0, slots := 0, locals := 20 } s m args below meth c 4 B 0 0 (MQ below (zc_Q D B (fun r' w' n' => r' = (some (.int (iz (te9 A ln fm)))) ∧ w' = cw ar b (τ) w0 ∧ n' = n)) args s 0 0 B) (zc_I D B (cw ar b τ w0) n s.heap) 4 [(0, .ref (b + 9)), (1, .int (iz ((fm : Nat) : Int))), (2, .int (iz ((ln : Nat) : Int))), (3, .int (iz ((q : Nat) : Int)))] [] := by
    intro f
    induction f with
    | zero => intro _ hm; exact absurd hm (Nat.not_lt_zero _)
    | succ f ih4 =>
      intro q hm4 hq hl hd hn
      refine hv_iload_n C 3 3 dX5_tokenEnd_4 rfl rfl ?_
      refine hv_iload_n C 2 2 dX5_tokenEnd_5 rfl rfl ?_
      refine hv_icmp_ge C 51 dX5_tokenEnd_6 (by decide) (by omega) (by omega) (fun h6 => ?_) (fun h6 => ?_)
      · skip
        refine hv_iload_n C 3 3 dX5_tokenEnd_51 rfl rfl ?_
        exact zt_iret C hr hlk (by unfold te9; split; (rename_i z; rw [hl z, le9_eq, if_neg (by first | omega | (rw [by9_n (by omega)]; decide))]); (split; (rename_i z; rw [hd z, de9_eq, if_neg (by first | omega | (rw [by9_n (by omega)]; decide))]); (omega))) rfl dX5_tokenEnd_52
      · skip
        have bq := tp_at hT q (by omega)
        refine hv_aload_n C 0 0 dX5_tokenEnd_9 rfl rfl ?_
        refine hv_iload_n C 1 1 dX5_tokenEnd_10 rfl rfl ?_
        refine zc_bald C K (f := (τ 9)) fm (cw_at 9 rfl) (by omega) (by omega) (by decide) dX5_tokenEnd_11 ?_
        refine hv_as (τ 9 fm) rfl ?_
        refine hv_nm (fun x1 ex1 => ?_)
        have rx1 : inI x1 := by rw [ex1]; exact (by omega)
        refine zt_callS [.int (iz x1)] [] C K (k_X5_isLetter l  τ x1 (by omega)) ck_X5_45 (by decide) ⟨Nat.zero_le _, Nat.zero_le _⟩ rfl (Nat.le_of_ble_eq_true rfl) dX5_tokenEnd_12 ?_
        refine hv_as (xb (decide (97 ≤ x1 ∧ x1 ≤ 122))) rfl ?_
        refine hv_dif_eq C 27 dX5_tokenEnd_15 (by decide)  (fun h15 => ?_) (fun h15 => ?_)
        · skip
          refine hv_aload_n C 0 0 dX5_tokenEnd_27 rfl rfl ?_
          refine hv_iload_n C 1 1 dX5_tokenEnd_28 rfl rfl ?_
          refine zc_bald C K (f := (τ 9)) fm (cw_at 9 rfl) (by omega) (by omega) (by decide) dX5_tokenEnd_29 ?_
          refine hv_as (τ 9 fm) rfl ?_
          refine hv_nm (fun x2 ex2 => ?_)
          have rx2 : inI x2 := by rw [ex2]; exact (by omega)
          refine zt_callS [.int (iz x2)] [] C K (k_X5_isDigit l  τ x2 (by omega)) ck_X5_49 (by decide) ⟨Nat.zero_le _, Nat.zero_le _⟩ rfl (Nat.le_of_ble_eq_true rfl) dX5_tokenEnd_30 ?_
          refine hv_as (xb (decide (48 ≤ x2 ∧ x2 ≤ 57))) rfl ?_
          refine hv_dif_eq C 51 dX5_tokenEnd_33 (by decide)  (fun h33 => ?_) (fun h33 => ?_)
          · skip
            refine hv_iload_n C 3 3 dX5_tokenEnd_51 rfl rfl ?_
            exact zt_iret C hr hlk (by unfold te9; split; (rename_i z; rw [hl z, le9_eq, if_neg (by first | omega | (rw [by9_n (by omega)]; decide))]); (split; (rename_i z; rw [hd z, de9_eq, if_neg (by first | omega | (rw [by9_n (by omega)]; decide))]); (omega))) rfl dX5_tokenEnd_52
          · skip
            refine hv_aload_n C 0 0 dX5_tokenEnd_36 rfl rfl ?_
            refine hv_iload_n C 3 3 dX5_tokenEnd_37 rfl rfl ?_
            refine zc_bald C K (f := (τ 9)) q (cw_at 9 rfl) (by omega) (by omega) (by decide) dX5_tokenEnd_38 ?_
            refine hv_as (τ 9 q) rfl ?_
            refine hv_nm (fun x3 ex3 => ?_)
            have rx3 : inI x3 := by rw [ex3]; exact (by omega)
            refine zt_callS [.int (iz x3)] [] C K (k_X5_isDigit l  τ x3 (by omega)) ck_X5_49 (by decide) ⟨Nat.zero_le _, Nat.zero_le _⟩ rfl (Nat.le_of_ble_eq_true rfl) dX5_tokenEnd_39 ?_
            refine hv_as (xb (decide (48 ≤ x3 ∧ x3 ≤ 57))) rfl ?_
            refine hv_dif_eq C 51 dX5_tokenEnd_42 (by decide)  (fun h42 => ?_) (fun h42 => ?_)
            · skip
              refine hv_iload_n C 3 3 dX5_tokenEnd_51 rfl rfl ?_
              exact zt_iret C hr hlk (by unfold te9; split; (rename_i z; rw [hl z, le9_eq, if_neg (by first | omega | (rw [by9_n (by omega)]; decide))]); (split; (rename_i z; rw [hd z, de9_eq, if_neg (by first | omega | (rw [by9_n (by omega)]; decide))]); (omega))) rfl dX5_tokenEnd_52
            · skip
              refine hv_iinc C 3 3 [(3, .int (iz (((q : Nat) : Int) + 1))), (0, .ref (b + 9)), (1, .int (iz ((fm : Nat) : Int))), (2, .int (iz ((ln : Nat) : Int)))] dX5_tokenEnd_45 rfl (by decide) rfl ?_
              refine hv_goto C 4 dX5_tokenEnd_48 (by decide) ?_
              refine hv_loc [1, 2, 3, 0] [(0, .ref (b + 9)), (1, .int (iz ((fm : Nat) : Int))), (2, .int (iz ((ln : Nat) : Int))), (3, .int (iz (((q : Nat) : Int) + 1)))] rfl ?_
              exact ih4 (q + 1) (by omega) (by omega) (fun z => by rw [hl z, le9_eq, if_pos (by omega)]; rfl) (fun z => by rw [hd z, de9_eq, if_pos (by omega)]; rfl) (by omega)
        · skip
          refine hv_aload_n C 0 0 dX5_tokenEnd_18 rfl rfl ?_
          refine hv_iload_n C 3 3 dX5_tokenEnd_19 rfl rfl ?_
          refine zc_bald C K (f := (τ 9)) q (cw_at 9 rfl) (by omega) (by omega) (by decide) dX5_tokenEnd_20 ?_
          refine hv_as (τ 9 q) rfl ?_
          refine hv_nm (fun x4 ex4 => ?_)
          have rx4 : inI x4 := by rw [ex4]; exact (by omega)
          refine zt_callS [.int (iz x4)] [] C K (k_X5_isLetter l  τ x4 (by omega)) ck_X5_45 (by decide) ⟨Nat.zero_le _, Nat.zero_le _⟩ rfl (Nat.le_of_ble_eq_true rfl) dX5_tokenEnd_21 ?_
          refine hv_as (xb (decide (97 ≤ x4 ∧ x4 ≤ 122))) rfl ?_
          refine hv_dif_ne C 45 dX5_tokenEnd_24 (by decide)  (fun h24 => ?_) (fun h24 => ?_)
          · skip
            refine hv_iinc C 3 3 [(3, .int (iz (((q : Nat) : Int) + 1))), (0, .ref (b + 9)), (1, .int (iz ((fm : Nat) : Int))), (2, .int (iz ((ln : Nat) : Int)))] dX5_tokenEnd_45 rfl (by decide) rfl ?_
            refine hv_goto C 4 dX5_tokenEnd_48 (by decide) ?_
            refine hv_loc [1, 2, 3, 0] [(0, .ref (b + 9)), (1, .int (iz ((fm : Nat) : Int))), (2, .int (iz ((ln : Nat) : Int))), (3, .int (iz (((q : Nat) : Int) + 1)))] rfl ?_
            exact ih4 (q + 1) (by omega) (by omega) (fun z => by rw [hl z, le9_eq, if_pos (by omega)]; rfl) (fun z => by rw [hd z, de9_eq, if_pos (by omega)]; rfl) (by omega)
          · skip
            refine hv_aload_n C 0 0 dX5_tokenEnd_27 rfl rfl ?_
            refine hv_iload_n C 1 1 dX5_tokenEnd_28 rfl rfl ?_
            refine zc_bald C K (f := (τ 9)) fm (cw_at 9 rfl) (by omega) (by omega) (by decide) dX5_tokenEnd_29 ?_
            refine hv_as (τ 9 fm) rfl ?_
            refine hv_nm (fun x5 ex5 => ?_)
            have rx5 : inI x5 := by rw [ex5]; exact (by omega)
            refine zt_callS [.int (iz x5)] [] C K (k_X5_isDigit l  τ x5 (by omega)) ck_X5_49 (by decide) ⟨Nat.zero_le _, Nat.zero_le _⟩ rfl (Nat.le_of_ble_eq_true rfl) dX5_tokenEnd_30 ?_
            refine hv_as (xb (decide (48 ≤ x5 ∧ x5 ≤ 57))) rfl ?_
            refine hv_dif_eq C 51 dX5_tokenEnd_33 (by decide)  (fun h33 => ?_) (fun h33 => ?_)
            · skip
              refine hv_iload_n C 3 3 dX5_tokenEnd_51 rfl rfl ?_
              exact zt_iret C hr hlk (by unfold te9; split; (rename_i z; rw [hl z, le9_eq, if_neg (by first | omega | (rw [by9_n (by omega)]; decide))]); (split; (rename_i z; rw [hd z, de9_eq, if_neg (by first | omega | (rw [by9_n (by omega)]; decide))]); (omega))) rfl dX5_tokenEnd_52
            · skip
              refine hv_aload_n C 0 0 dX5_tokenEnd_36 rfl rfl ?_
              refine hv_iload_n C 3 3 dX5_tokenEnd_37 rfl rfl ?_
              refine zc_bald C K (f := (τ 9)) q (cw_at 9 rfl) (by omega) (by omega) (by decide) dX5_tokenEnd_38 ?_
              refine hv_as (τ 9 q) rfl ?_
              refine hv_nm (fun x6 ex6 => ?_)
              have rx6 : inI x6 := by rw [ex6]; exact (by omega)
              refine zt_callS [.int (iz x6)] [] C K (k_X5_isDigit l  τ x6 (by omega)) ck_X5_49 (by decide) ⟨Nat.zero_le _, Nat.zero_le _⟩ rfl (Nat.le_of_ble_eq_true rfl) dX5_tokenEnd_39 ?_
              refine hv_as (xb (decide (48 ≤ x6 ∧ x6 ≤ 57))) rfl ?_
              refine hv_dif_eq C 51 dX5_tokenEnd_42 (by decide)  (fun h42 => ?_) (fun h42 => ?_)
              · skip
                refine hv_iload_n C 3 3 dX5_tokenEnd_51 rfl rfl ?_
                exact zt_iret C hr hlk (by unfold te9; split; (rename_i z; rw [hl z, le9_eq, if_neg (by first | omega | (rw [by9_n (by omega)]; decide))]); (split; (rename_i z; rw [hd z, de9_eq, if_neg (by first | omega | (rw [by9_n (by omega)]; decide))]); (omega))) rfl dX5_tokenEnd_52
              · skip
                refine hv_iinc C 3 3 [(3, .int (iz (((q : Nat) : Int) + 1))), (0, .ref (b + 9)), (1, .int (iz ((fm : Nat) : Int))), (2, .int (iz ((ln : Nat) : Int)))] dX5_tokenEnd_45 rfl (by decide) rfl ?_
                refine hv_goto C 4 dX5_tokenEnd_48 (by decide) ?_
                refine hv_loc [1, 2, 3, 0] [(0, .ref (b + 9)), (1, .int (iz ((fm : Nat) : Int))), (2, .int (iz ((ln : Nat) : Int))), (3, .int (iz (((q : Nat) : Int) + 1)))] rfl ?_
                exact ih4 (q + 1) (by omega) (by omega) (fun z => by rw [hl z, le9_eq, if_pos (by omega)]; rfl) (fun z => by rw [hd z, de9_eq, if_pos (by omega)]; rfl) (by omega)
  refine hv_loc [1, 2, 3, 0] [(0, .ref (b + 9)), (1, .int (iz ((fm : Nat) : Int))), (2, .int (iz ((ln : Nat) : Int))), (3, .int (iz (((fm : Nat) : Int) + 1)))] rfl ?_
  exact L4 _ (fm + 1) (Nat.lt_succ_self _) (by omega) (fun _ => rfl) (fun _ => rfl) (Or.inr (Or.inr rfl))
theorem dX5_numberToken_0 : decode cX5_numberToken 0 = .ok (.iload_n 2, 1) := by decide +kernel
theorem dX5_numberToken_1 : decode cX5_numberToken 1 = .ok (.iload_n 1, 1) := by decide +kernel
theorem dX5_numberToken_2 : decode cX5_numberToken 2 = .ok (.isub, 1) := by decide +kernel
theorem dX5_numberToken_3 : decode cX5_numberToken 3 = .ok (.iconst 4, 1) := by decide +kernel
theorem dX5_numberToken_4 : decode cX5_numberToken 4 = .ok (.if_icmp .le 5, 3) := by decide +kernel
theorem dX5_numberToken_7 : decode cX5_numberToken 7 = .ok (.iconst 1, 1) := by decide +kernel
theorem dX5_numberToken_8 : decode cX5_numberToken 8 = .ok (.ireturn, 1) := by decide +kernel
theorem dX5_numberToken_9 : decode cX5_numberToken 9 = .ok (.iconst 0, 1) := by decide +kernel
theorem dX5_numberToken_10 : decode cX5_numberToken 10 = .ok (.istore_n 3, 1) := by decide +kernel
theorem dX5_numberToken_11 : decode cX5_numberToken 11 = .ok (.iload_n 1, 1) := by decide +kernel
theorem dX5_numberToken_12 : decode cX5_numberToken 12 = .ok (.istore 4, 2) := by decide +kernel
theorem dX5_numberToken_14 : decode cX5_numberToken 14 = .ok (.iload 4, 2) := by decide +kernel
theorem dX5_numberToken_16 : decode cX5_numberToken 16 = .ok (.iload_n 2, 1) := by decide +kernel
theorem dX5_numberToken_17 : decode cX5_numberToken 17 = .ok (.if_icmp .ge 22, 3) := by decide +kernel
theorem dX5_numberToken_20 : decode cX5_numberToken 20 = .ok (.iload_n 3, 1) := by decide +kernel
theorem dX5_numberToken_21 : decode cX5_numberToken 21 = .ok (.bipush 10, 2) := by decide +kernel
theorem dX5_numberToken_23 : decode cX5_numberToken 23 = .ok (.imul, 1) := by decide +kernel
theorem dX5_numberToken_24 : decode cX5_numberToken 24 = .ok (.aload_n 0, 1) := by decide +kernel
theorem dX5_numberToken_25 : decode cX5_numberToken 25 = .ok (.iload 4, 2) := by decide +kernel
theorem dX5_numberToken_27 : decode cX5_numberToken 27 = .ok (.baload, 1) := by decide +kernel
theorem dX5_numberToken_28 : decode cX5_numberToken 28 = .ok (.iadd, 1) := by decide +kernel
theorem dX5_numberToken_29 : decode cX5_numberToken 29 = .ok (.bipush 48, 2) := by decide +kernel
theorem dX5_numberToken_31 : decode cX5_numberToken 31 = .ok (.isub, 1) := by decide +kernel
theorem dX5_numberToken_32 : decode cX5_numberToken 32 = .ok (.istore_n 3, 1) := by decide +kernel
theorem dX5_numberToken_33 : decode cX5_numberToken 33 = .ok (.iinc 4 1, 3) := by decide +kernel
theorem dX5_numberToken_36 : decode cX5_numberToken 36 = .ok (.goto (-22), 3) := by decide +kernel
theorem dX5_numberToken_39 : decode cX5_numberToken 39 = .ok (.bipush 100, 2) := by decide +kernel
theorem dX5_numberToken_41 : decode cX5_numberToken 41 = .ok (.iload_n 3, 1) := by decide +kernel
theorem dX5_numberToken_42 : decode cX5_numberToken 42 = .ok (.iadd, 1) := by decide +kernel
theorem dX5_numberToken_43 : decode cX5_numberToken 43 = .ok (.ireturn, 1) := by decide +kernel
set_option maxRecDepth 100000 in
set_option maxHeartbeats 4000000 in
theorem k_X5_numberToken (l : Launch) {D : va_G} {ar : Nat → ClassId} {B : Nat → Prop} {b n : Nat} {w0 : zcW} (A : Nat → Int) (ln : Nat) (τ : Nat → Nat → Int) (fm : Nat) (to9 : Nat) (hT : tpr A ln (τ 9)) (hr9 : fm < to9 ∧ to9 ≤ ln ∧ ln ≤ 500) (hd9 : (to9 : Int) = de9 A ln fm) : zt_M l D ar B b w0 n yX5_numberToken cX5_numberToken 5 (some .int) 0 0 [.ref (b + 9), .int (iz ((fm : Nat) : Int)), .int (iz ((to9 : Nat) : Int))] τ (some (.int (iz (if 4 < (to9 : Int) - fm then 1 else 100 + (dg9 A ln fm fm 0).2)))) (τ) := by
  refine zc_start (own := RX5) (by decide +kernel) rfl (Nat.le_of_ble_eq_true rfl) ?_
  intro p e s m args below meth c C K hr hlk hnam
  refine hv_iload_n C 2 2 dX5_numberToken_0 rfl rfl ?_
  refine hv_iload_n C 1 1 dX5_numberToken_1 rfl rfl ?_
  refine hv_isub C dX5_numberToken_2 ?_
  refine hv_iconst C dX5_numberToken_3 ?_
  refine hv_icmp_le C 9 dX5_numberToken_4 (by decide) (by omega) (by omega) (fun h4 => ?_) (fun h4 => ?_)
  · skip
    refine hv_iconst C dX5_numberToken_9 ?_
    refine hv_istore_n C 3 [(3, .int (iz 0)), (0, .ref (b + 9)), (1, .int (iz ((fm : Nat) : Int))), (2, .int (iz ((to9 : Nat) : Int)))] dX5_numberToken_10 rfl (by decide) rfl ?_
    refine hv_iload_n C 1 2 dX5_numberToken_11 rfl rfl ?_
    refine hv_istore C 4 [(4, .int (iz ((fm : Nat) : Int))), (3, .int (iz 0)), (0, .ref (b + 9)), (1, .int (iz ((fm : Nat) : Int))), (2, .int (iz ((to9 : Nat) : Int)))] dX5_numberToken_12 (by decide) rfl ?_
    have L14 : ∀ (f : Nat) (nu : Int) (k : Nat), to9 - k < f → (fm ≤ k ∧ k ≤ to9) → ((to9 : Int) = de9 A ln k) → (dg9 A ln fm fm 0 = dg9 A ln fm k nu) → hvV p l e { frames := 0, cells := 0, slots := 0, locals := 0 } s m args below meth c 5 B 0 0 (MQ below (zc_Q D B (fun r' w' n' => r' = (some (.int (iz (if 4 < (to9 : Int) - fm then 1 else 100 + (dg9 A ln fm fm 0).2)))) ∧ w' = cw ar b (τ) w0 ∧ n' = n)) args s 0 0 B) (zc_I D B (cw ar b τ w0) n s.heap) 14 [(0, .ref (b + 9)), (1, .int (iz ((fm : Nat) : Int))), (2, .int (iz ((to9 : Nat) : Int))), (3, .int (iz nu)), (4, .int (iz ((k : Nat) : Int)))] [] := by
      intro f
      induction f with
      | zero => intro _ _ hm; exact absurd hm (Nat.not_lt_zero _)
      | succ f ih14 =>
        intro nu k hm14 hk hk2 hv
        refine hv_iload C 4 4 dX5_numberToken_14 rfl ?_
        refine hv_iload_n C 2 2 dX5_numberToken_16 rfl rfl ?_
        refine hv_icmp_ge C 39 dX5_numberToken_17 (by decide) (by omega) (by omega) (fun h17 => ?_) (fun h17 => ?_)
        · skip
          refine hv_bipush C dX5_numberToken_39 (by decide) ?_
          refine hv_iload_n C 3 3 dX5_numberToken_41 rfl rfl ?_
          refine hv_iadd C dX5_numberToken_42 ?_
          exact zt_iret C hr hlk (by first | (rw [if_pos (by omega)]; done) | (have z9 : k = to9 := (by omega); subst z9; rw [if_neg (by omega), hv, dg9_eq, if_neg (by intro z8; rw [de9_eq, if_pos z8] at hk2; have := de9_r (A := A) (n := ln) (q := (k : Int) + 1) (by have := by9_lt (A := A) (n := ln) (q := (k : Int)) (by omega); omega); omega)])) rfl dX5_numberToken_43
        · skip
          have bk := tp_at hT k (by omega)
          have hdk : 48 ≤ by9 A ln k ∧ by9 A ln k ≤ 57 := by
            apply Decidable.byContradiction
            intro z9
            rw [de9_eq, if_neg z9] at hk2
            omega
          refine hv_iload_n C 3 3 dX5_numberToken_20 rfl rfl ?_
          refine hv_bipush C dX5_numberToken_21 (by decide) ?_
          refine hv_imul C dX5_numberToken_23 ?_
          refine hv_aload_n C 0 0 dX5_numberToken_24 rfl rfl ?_
          refine hv_iload C 4 4 dX5_numberToken_25 rfl ?_
          refine zc_bald C K (f := (τ 9)) k (cw_at 9 rfl) (by omega) (by omega) (by decide) dX5_numberToken_27 ?_
          refine hv_as (τ 9 k) rfl ?_
          refine hv_nm (fun x1 ex1 => ?_)
          have rx1 : inI x1 := by rw [ex1]; exact (by omega)
          refine hv_iadd C dX5_numberToken_28 ?_
          refine hv_bipush C dX5_numberToken_29 (by decide) ?_
          refine hv_isub C dX5_numberToken_31 ?_
          refine hv_istore_n C 3 [(3, .int (iz (((nu * 10) + x1) - 48))), (0, .ref (b + 9)), (1, .int (iz ((fm : Nat) : Int))), (2, .int (iz ((to9 : Nat) : Int))), (4, .int (iz ((k : Nat) : Int)))] dX5_numberToken_32 rfl (by decide) rfl ?_
          refine hv_iinc C 4 4 [(4, .int (iz (((k : Nat) : Int) + 1))), (3, .int (iz (((nu * 10) + x1) - 48))), (0, .ref (b + 9)), (1, .int (iz ((fm : Nat) : Int))), (2, .int (iz ((to9 : Nat) : Int)))] dX5_numberToken_33 rfl (by decide) rfl ?_
          refine hv_goto C 14 dX5_numberToken_36 (by decide) ?_
          refine hv_loc [2, 3, 4, 1, 0] [(0, .ref (b + 9)), (1, .int (iz ((fm : Nat) : Int))), (2, .int (iz ((to9 : Nat) : Int))), (3, .int (iz (((nu * 10) + x1) - 48))), (4, .int (iz (((k : Nat) : Int) + 1)))] rfl ?_
          exact ih14 (((nu * 10) + x1) - 48) (k + 1) (by omega) (by omega) (by rw [hk2, de9_eq, if_pos hdk]; rfl) (by rw [hv, dg9_eq, if_pos hdk, if_pos (by omega), show 10 * nu + by9 A ln k - 48 = nu * 10 + by9 A ln k - 48 by omega, show by9 A ln k = τ 9 k by omega]; first | rfl | (subst_vars; rfl))
    refine hv_loc [2, 3, 4, 1, 0] [(0, .ref (b + 9)), (1, .int (iz ((fm : Nat) : Int))), (2, .int (iz ((to9 : Nat) : Int))), (3, .int (iz 0)), (4, .int (iz ((fm : Nat) : Int)))] rfl ?_
    exact L14 _ 0 fm (Nat.lt_succ_self _) (by omega) hd9 rfl
  · skip
    refine hv_iconst C dX5_numberToken_7 ?_
    exact zt_iret C hr hlk (by first | (rw [if_pos (by omega)]; done) | (have z9 : k = to9 := (by omega); subst z9; rw [if_neg (by omega), hv, dg9_eq, if_neg (by intro z8; rw [de9_eq, if_pos z8] at hk2; have := de9_r (A := A) (n := ln) (q := (k : Int) + 1) (by have := by9_lt (A := A) (n := ln) (q := (k : Int)) (by omega); omega); omega)])) rfl dX5_numberToken_8
