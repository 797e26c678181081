/-- what the stations hold -/
def si (A : Nat → Int) : Prop := ∀ s : Nat, (s : Int) < A 2 → (0 ≤ A (80 + 4 * s + 0) ∧ A (80 + 4 * s + 0) ≤ A 0 - 1) ∧ (0 ≤ A (80 + 4 * s + 1) ∧ A (80 + 4 * s + 1) ≤ 3) ∧ (1 ≤ A (80 + 4 * s + 2) ∧ A (80 + 4 * s + 2) ≤ 99) ∧ (0 ≤ A (80 + 4 * s + 3) ∧ A (80 + 4 * s + 3) ≤ 255)
/-- what the contracts hold: how many lines, how many tests in each -/
def li (A : Nat → Int) : Prop := ∀ w : Nat, w < 3 → (0 ≤ A (14 + w) ∧ A (14 + w) ≤ 16) ∧ ∀ k : Nat, (k : Int) < A (14 + w) → 0 ≤ A (800 + 320 * w + 20 * k) ∧ A (800 + 320 * w + 20 * k) ≤ 4
def zo (A : Nat → Int) (s : Nat) : Nat := (A (80 + 4 * s + 1)).toNat
def pl (A : Nat → Int) (s h : Nat) (i : Int) : Int := lo A (zo A s) (A (280 + 8 * h + 1)) (A (280 + 8 * h + 2) + i)
def ask (A : Nat → Int) (what : Int) (s h : Nat) (i : Int) : Int :=
  if what = 1 then (if A (280 + 8 * h + 6) = 0 then 0 else 1)
  else if what = 2 then (if A (20 + 2 * zo A s) ≤ A (280 + 8 * h + 1) ∧ A (280 + 8 * h + 1) ≤ A (20 + 2 * zo A s + 1) then 1 else 0)
  else if what = 3 then (pl A s h i + 48) % 48
  else if what = 4 then A (80 + 4 * s + 2)
  else if what = 5 then (if A (280 + 8 * h + 1) - A (280 + 8 * h + 7) < 0 then 0 else A (280 + 8 * h + 1) - A (280 + 8 * h + 7))
  else if what = 6 then A (80 + 4 * s + 1)
  else if what = 7 then A (280 + 8 * h + 5)
  else if what = 8 then A (280 + 8 * h + 3)
  else ((pl A s h i + 48) / 48 - 1 + 7) % 7
theorem pl_rng {A : Nat → Int} {s h : Nat} {i : Int} (hs : si A) (hh : hi A) (h1 : (s : Int) < A 2) (h2 : (h : Int) < A 4) (h3 : 0 ≤ i ∧ i ≤ 3) : -6 ≤ pl A s h i ∧ pl A s h i ≤ 9700 := by
  have a1 := hs s h1
  have a2 := hh h h2
  exact lo_rng _ _ _ _ (by unfold zo; omega) (by omega) (by omega)
theorem ask_rng {A : Nat → Int} {s h : Nat} {i : Int} (what : Int) (hs : si A) (hh : hi A) (h1 : (s : Int) < A 2) (h2 : (h : Int) < A 4) (h3 : 0 ≤ i ∧ i ≤ 3) : 0 ≤ ask A what s h i ∧ ask A what s h i ≤ 300 := by
  have a1 := hs s h1
  have a2 := hh h h2
  have a3 := pl_rng hs hh h1 h2 h3
  unfold ask
  repeat' split
  all_goals omega
def tst (A : Nat → Int) (q : Nat) (s h : Nat) (i : Int) : Bool :=
  (if A (q + 2) = 60 then decide (ask A (A (q + 1)) s h i < A (q + 3)) else if A (q + 2) = 62 then decide (A (q + 3) < ask A (A (q + 1)) s h i) else decide (ask A (A (q + 1)) s h i = A (q + 3))) != decide (A q = 1)
def hd (A : Nat → Int) (row s h : Nat) (i : Int) : Nat → Bool
  | 0 => true
  | t + 1 => hd A row s h i t && tst A (row + 1 + 4 * t) s h i
theorem hd_f {A : Nat → Int} {row s h : Nat} {i : Int} {t : Nat} (u : Nat) (e : hd A row s h i t = false) (l : t ≤ u) : hd A row s h i u = false := by
  induction u with
  | zero => have : t = 0 := (by omega); subst this; exact e
  | succ u ih =>
    by_cases q : t = u + 1
    · subst q; exact e
    · rw [hd, ih (by omega)]; rfl
def lf (A : Nat → Int) (s h : Nat) (i : Int) (pay : Bool) (w : Nat) : Nat → Nat → Int
  | 0, _ => -1
  | f + 1, k => if (decide (A (800 + 320 * w + 20 * k + 17) = 22) == pay) && hd A (800 + 320 * w + 20 * k) s h i (A (800 + 320 * w + 20 * k)).toNat then (k : Int) else lf A s h i pay w f (k + 1)
theorem lf_rng (A : Nat → Int) (s h : Nat) (i : Int) (pay : Bool) (w : Nat) : ∀ f k : Nat, -1 ≤ lf A s h i pay w f k ∧ (0 ≤ lf A s h i pay w f k → lf A s h i pay w f k < (k : Int) + (f : Int))
  | 0, k => by simp [lf]
  | f + 1, k => by
    have := lf_rng A s h i pay w f (k + 1)
    unfold lf
    split
    · omega
    · omega
def line (A : Nat → Int) (s h : Nat) (i : Int) (pay : Bool) : Int := lf A s h i pay (A (280 + 8 * h)).toNat (A (14 + (A (280 + 8 * h)).toNat)).toNat 0
theorem line_rng {A : Nat → Int} (s : Nat) {h : Nat} (i : Int) (pay : Bool) (hh : hi A) (hl : li A) (h2 : (h : Int) < A 4) : -1 ≤ line A s h i pay ∧ line A s h i pay ≤ 15 := by
  have a2 := hh h h2
  have a3 : 0 ≤ A (280 + 8 * h) ∧ A (280 + 8 * h) ≤ 2 := a2.1
  have a4 := hl (A (280 + 8 * h)).toNat (by omega)
  have a5 := lf_rng A s h i pay (A (280 + 8 * h)).toNat (A (14 + (A (280 + 8 * h)).toNat)).toNat 0
  unfold line
  omega
def clr (A : Nat → Int) (s h : Nat) (i : Int) : Bool := decide (0 ≤ line A s h i false) && decide (la A h (line A s h i false).toNat 17 = 20)
def own (A : Nat → Int) (s : Nat) (d t : Int) : Int := if A (80 + 4 * s + 3) / 2 ^ ((lo A (zo A s) d t + 48) % 48 / 6).toNat % 2 = 1 then 200 else 300
def thn (A : Nat → Int) (h : Nat) (d t : Int) : Prop := (A 9 = -1 ∨ A (280 + 8 * h + 7) ≤ A 9) ∧ A (280 + 8 * h + 1) = d ∧ (A (280 + 8 * h + 2) ≤ t ∧ t ≤ A (280 + 8 * h + 2) + A (280 + 8 * h + 3) - 1)
def thb (A : Nat → Int) (h : Nat) (d t : Int) : Bool := decide ((A 9 = -1 ∨ A (280 + 8 * h + 7) ≤ A 9) ∧ A (280 + 8 * h + 1) = d ∧ (A (280 + 8 * h + 2) ≤ t ∧ t ≤ A (280 + 8 * h + 2) + A (280 + 8 * h + 3) - 1))
def sh (A : Nat → Int) (s : Nat) (d t w : Int) : Nat → Nat → Int → Int
  | 0, _, kept => if 0 ≤ kept then kept else own A s d t
  | f + 1, h, kept => if (decide (A (280 + 8 * h + 0) = w) && thb A h d t && clr A s h (t - A (280 + 8 * h + 2))) = true then (if A (280 + 8 * h + 6) / 2 ^ s % 2 ^ 1 = 1 then (h : Int) else if A (280 + 8 * h + 6) = 0 ∧ kept < 0 then sh A s d t w f (h + 1) h else sh A s d t w f (h + 1) kept) else sh A s d t w f (h + 1) kept
def sd (A : Nat → Int) (s : Nat) (d t : Int) : Int := if 0 ≤ bk A s d t (A 5).toNat then 100 + bk A s d t (A 5).toNat else sh A s d t (member A s d) (A 4).toNat 0 (-1)
def se (A : Nat → Int) (h : Int) (d t : Int) : Nat → Nat
  | 0 => 0
  | s + 1 => se A h d t s ||| (if sd A s d t = h then 2 ^ s else 0)

theorem dX12_asked_0 : decode cX12_asked 0 = .ok (.aload_n 0, 1) := by decide +kernel
theorem dX12_asked_1 : decode cX12_asked 1 = .ok (.iload_n 2, 1) := by decide +kernel
theorem dX12_asked_2 : decode cX12_asked 2 = .ok (.iconst 1, 1) := by decide +kernel
theorem dX12_asked_3 : decode cX12_asked 3 = .ok (.invokevirtual 189, 3) := by decide +kernel
theorem dX12_asked_6 : decode cX12_asked 6 = .ok (.istore 5, 2) := by decide +kernel
theorem dX12_asked_8 : decode cX12_asked 8 = .ok (.aload_n 0, 1) := by decide +kernel
theorem dX12_asked_9 : decode cX12_asked 9 = .ok (.iload 5, 2) := by decide +kernel
theorem dX12_asked_11 : decode cX12_asked 11 = .ok (.aload_n 0, 1) := by decide +kernel
theorem dX12_asked_12 : decode cX12_asked 12 = .ok (.iload_n 3, 1) := by decide +kernel
theorem dX12_asked_13 : decode cX12_asked 13 = .ok (.iconst 1, 1) := by decide +kernel
theorem dX12_asked_14 : decode cX12_asked 14 = .ok (.invokevirtual 67, 3) := by decide +kernel
theorem dX12_asked_17 : decode cX12_asked 17 = .ok (.aload_n 0, 1) := by decide +kernel
theorem dX12_asked_18 : decode cX12_asked 18 = .ok (.iload_n 3, 1) := by decide +kernel
theorem dX12_asked_19 : decode cX12_asked 19 = .ok (.iconst 2, 1) := by decide +kernel
theorem dX12_asked_20 : decode cX12_asked 20 = .ok (.invokevirtual 67, 3) := by decide +kernel
theorem dX12_asked_23 : decode cX12_asked 23 = .ok (.iload 4, 2) := by decide +kernel
theorem dX12_asked_25 : decode cX12_asked 25 = .ok (.iadd, 1) := by decide +kernel
theorem dX12_asked_26 : decode cX12_asked 26 = .ok (.invokevirtual 84, 3) := by decide +kernel
theorem dX12_asked_29 : decode cX12_asked 29 = .ok (.istore 6, 2) := by decide +kernel
theorem dX12_asked_31 : decode cX12_asked 31 = .ok (.aload_n 0, 1) := by decide +kernel
theorem dX12_asked_32 : decode cX12_asked 32 = .ok (.iload_n 3, 1) := by decide +kernel
theorem dX12_asked_33 : decode cX12_asked 33 = .ok (.iconst 1, 1) := by decide +kernel
theorem dX12_asked_34 : decode cX12_asked 34 = .ok (.invokevirtual 67, 3) := by decide +kernel
theorem dX12_asked_37 : decode cX12_asked 37 = .ok (.aload_n 0, 1) := by decide +kernel
theorem dX12_asked_38 : decode cX12_asked 38 = .ok (.iload_n 3, 1) := by decide +kernel
theorem dX12_asked_39 : decode cX12_asked 39 = .ok (.bipush 7, 2) := by decide +kernel
theorem dX12_asked_41 : decode cX12_asked 41 = .ok (.invokevirtual 67, 3) := by decide +kernel
theorem dX12_asked_44 : decode cX12_asked 44 = .ok (.isub, 1) := by decide +kernel
theorem dX12_asked_45 : decode cX12_asked 45 = .ok (.istore 7, 2) := by decide +kernel
theorem dX12_asked_47 : decode cX12_asked 47 = .ok (.iload_n 1, 1) := by decide +kernel
theorem dX12_asked_48 : decode cX12_asked 48 = .ok (.tableswitch 127 1 8 #[48, 64, 85, 91, 98, 110, 113, 120], 48) := by decide +kernel
theorem dX12_asked_96 : decode cX12_asked 96 = .ok (.aload_n 0, 1) := by decide +kernel
theorem dX12_asked_97 : decode cX12_asked 97 = .ok (.iload_n 3, 1) := by decide +kernel
theorem dX12_asked_98 : decode cX12_asked 98 = .ok (.bipush 6, 2) := by decide +kernel
theorem dX12_asked_100 : decode cX12_asked 100 = .ok (.invokevirtual 67, 3) := by decide +kernel
theorem dX12_asked_103 : decode cX12_asked 103 = .ok (.ifCond .eq 7, 3) := by decide +kernel
theorem dX12_asked_106 : decode cX12_asked 106 = .ok (.iconst 1, 1) := by decide +kernel
theorem dX12_asked_107 : decode cX12_asked 107 = .ok (.goto 4, 3) := by decide +kernel
theorem dX12_asked_110 : decode cX12_asked 110 = .ok (.iconst 0, 1) := by decide +kernel
theorem dX12_asked_111 : decode cX12_asked 111 = .ok (.ireturn, 1) := by decide +kernel
theorem dX12_asked_112 : decode cX12_asked 112 = .ok (.aload_n 0, 1) := by decide +kernel
theorem dX12_asked_113 : decode cX12_asked 113 = .ok (.iload 5, 2) := by decide +kernel
theorem dX12_asked_115 : decode cX12_asked 115 = .ok (.aload_n 0, 1) := by decide +kernel
theorem dX12_asked_116 : decode cX12_asked 116 = .ok (.iload_n 3, 1) := by decide +kernel
theorem dX12_asked_117 : decode cX12_asked 117 = .ok (.iconst 1, 1) := by decide +kernel
theorem dX12_asked_118 : decode cX12_asked 118 = .ok (.invokevirtual 67, 3) := by decide +kernel
theorem dX12_asked_121 : decode cX12_asked 121 = .ok (.invokevirtual 78, 3) := by decide +kernel
theorem dX12_asked_124 : decode cX12_asked 124 = .ok (.ifCond .eq 7, 3) := by decide +kernel
theorem dX12_asked_127 : decode cX12_asked 127 = .ok (.iconst 1, 1) := by decide +kernel
theorem dX12_asked_128 : decode cX12_asked 128 = .ok (.goto 4, 3) := by decide +kernel
theorem dX12_asked_131 : decode cX12_asked 131 = .ok (.iconst 0, 1) := by decide +kernel
theorem dX12_asked_132 : decode cX12_asked 132 = .ok (.ireturn, 1) := by decide +kernel
theorem dX12_asked_133 : decode cX12_asked 133 = .ok (.iload 6, 2) := by decide +kernel
theorem dX12_asked_135 : decode cX12_asked 135 = .ok (.invokestatic 192, 3) := by decide +kernel
theorem dX12_asked_138 : decode cX12_asked 138 = .ok (.ireturn, 1) := by decide +kernel
theorem dX12_asked_139 : decode cX12_asked 139 = .ok (.aload_n 0, 1) := by decide +kernel
theorem dX12_asked_140 : decode cX12_asked 140 = .ok (.iload_n 2, 1) := by decide +kernel
theorem dX12_asked_141 : decode cX12_asked 141 = .ok (.iconst 2, 1) := by decide +kernel
theorem dX12_asked_142 : decode cX12_asked 142 = .ok (.invokevirtual 189, 3) := by decide +kernel
theorem dX12_asked_145 : decode cX12_asked 145 = .ok (.ireturn, 1) := by decide +kernel
theorem dX12_asked_146 : decode cX12_asked 146 = .ok (.iload 7, 2) := by decide +kernel
theorem dX12_asked_148 : decode cX12_asked 148 = .ok (.ifCond .ge 7, 3) := by decide +kernel
theorem dX12_asked_151 : decode cX12_asked 151 = .ok (.iconst 0, 1) := by decide +kernel
theorem dX12_asked_152 : decode cX12_asked 152 = .ok (.goto 5, 3) := by decide +kernel
theorem dX12_asked_155 : decode cX12_asked 155 = .ok (.iload 7, 2) := by decide +kernel
theorem dX12_asked_157 : decode cX12_asked 157 = .ok (.ireturn, 1) := by decide +kernel
theorem dX12_asked_158 : decode cX12_asked 158 = .ok (.iload 5, 2) := by decide +kernel
theorem dX12_asked_160 : decode cX12_asked 160 = .ok (.ireturn, 1) := by decide +kernel
theorem dX12_asked_161 : decode cX12_asked 161 = .ok (.aload_n 0, 1) := by decide +kernel
theorem dX12_asked_162 : decode cX12_asked 162 = .ok (.iload_n 3, 1) := by decide +kernel
theorem dX12_asked_163 : decode cX12_asked 163 = .ok (.iconst 5, 1) := by decide +kernel
theorem dX12_asked_164 : decode cX12_asked 164 = .ok (.invokevirtual 67, 3) := by decide +kernel
theorem dX12_asked_167 : decode cX12_asked 167 = .ok (.ireturn, 1) := by decide +kernel
theorem dX12_asked_168 : decode cX12_asked 168 = .ok (.aload_n 0, 1) := by decide +kernel
theorem dX12_asked_169 : decode cX12_asked 169 = .ok (.iload_n 3, 1) := by decide +kernel
theorem dX12_asked_170 : decode cX12_asked 170 = .ok (.iconst 3, 1) := by decide +kernel
theorem dX12_asked_171 : decode cX12_asked 171 = .ok (.invokevirtual 67, 3) := by decide +kernel
theorem dX12_asked_174 : decode cX12_asked 174 = .ok (.ireturn, 1) := by decide +kernel
theorem dX12_asked_175 : decode cX12_asked 175 = .ok (.iload 6, 2) := by decide +kernel
theorem dX12_asked_177 : decode cX12_asked 177 = .ok (.invokestatic 195, 3) := by decide +kernel
theorem dX12_asked_180 : decode cX12_asked 180 = .ok (.bipush 7, 2) := by decide +kernel
theorem dX12_asked_182 : decode cX12_asked 182 = .ok (.iadd, 1) := by decide +kernel
theorem dX12_asked_183 : decode cX12_asked 183 = .ok (.bipush 7, 2) := by decide +kernel
theorem dX12_asked_185 : decode cX12_asked 185 = .ok (.irem, 1) := by decide +kernel
theorem dX12_asked_186 : decode cX12_asked 186 = .ok (.ireturn, 1) := by decide +kernel
set_option maxRecDepth 100000 in
set_option maxHeartbeats 4000000 in
theorem k_asked (l : Launch) {D : va_G} {cI cZ : ClassId} {a0 : Nat} (σ : Nat → Nat → Int) (what : Int) (s9 : Nat) (h : Nat) (i : Int) (hσ : rg σ) (hc : cn (σ 1)) (hs : si (σ 1)) (hh : hi (σ 1)) (r_what : inI what) (h1 : (s9 : Int) < σ 1 2) (h2 : (h : Int) < σ 1 4) (h3 : 0 ≤ i ∧ i ≤ 3) : moM l D cI cZ a0 yX12_asked cX12_asked 8 (some .int) 3 67 [.ref a0, .int (iz what), .int (iz ((s9 : Nat) : Int)), .int (iz ((h : Nat) : Int)), .int (iz i)] σ (some (.int (iz (ask (σ 1) what s9 h i)))) (σ) := by
  refine mo_start (by decide) rfl (Nat.le_of_ble_eq_true rfl) ?_
  intro p e s m args below meth c C K hr hlk
  have a1 := hs s9 h1
  have a2 := hh h h2
  have a3 := pl_rng hs hh h1 h2 h3
  refine hv_aload_n C 0 0 dX12_asked_0 rfl rfl ?_
  refine hv_iload_n C 2 2 dX12_asked_1 rfl rfl ?_
  refine hv_iconst C dX12_asked_2 ?_
  refine mo_call [.int (iz ((s9 : Nat) : Int)), .int (iz 1)] [] C K (k_stationOf l σ s9 1 (by omega) (by omega)) ck_stationOf (by decide) rfl (Nat.le_of_ble_eq_true rfl) dX12_asked_3 ?_
  refine hv_nm (fun x1 ex1 => ?_)
  have rx1 : inI x1 := by rw [ex1]; exact hσ _ _
  obtain ⟨zn, rfl⟩ : ∃ n : Nat, x1 = (n : Int) := ⟨(x1).toNat, by omega⟩
  have hz : zo (σ 1) s9 = zn := by unfold zo; omega
  refine hv_istore C 5 [(5, .int (iz ((zn : Nat) : Int))), (0, .ref a0), (1, .int (iz what)), (2, .int (iz ((s9 : Nat) : Int))), (3, .int (iz ((h : Nat) : Int))), (4, .int (iz i))] dX12_asked_6 (by decide) rfl ?_
  refine hv_aload_n C 0 1 dX12_asked_8 rfl rfl ?_
  refine hv_iload C 5 0 dX12_asked_9 rfl ?_
  refine hv_aload_n C 0 1 dX12_asked_11 rfl rfl ?_
  refine hv_iload_n C 3 4 dX12_asked_12 rfl rfl ?_
  refine hv_iconst C dX12_asked_13 ?_
  refine mo_call [.int (iz ((h : Nat) : Int)), .int (iz 1)] [.int (iz ((zn : Nat) : Int)), .ref a0] C K (k_hourOf l σ h 1 (by omega) (by omega)) ck_hourOf (by decide) rfl (Nat.le_of_ble_eq_true rfl) dX12_asked_14 ?_
  refine hv_nm (fun x2 ex2 => ?_)
  have rx2 : inI x2 := by rw [ex2]; exact hσ _ _
  refine hv_aload_n C 0 1 dX12_asked_17 rfl rfl ?_
  refine hv_iload_n C 3 4 dX12_asked_18 rfl rfl ?_
  refine hv_iconst C dX12_asked_19 ?_
  refine mo_call [.int (iz ((h : Nat) : Int)), .int (iz 2)] [.int (iz x2), .int (iz ((zn : Nat) : Int)), .ref a0] C K (k_hourOf l σ h 2 (by omega) (by omega)) ck_hourOf (by decide) rfl (Nat.le_of_ble_eq_true rfl) dX12_asked_20 ?_
  refine hv_nm (fun x3 ex3 => ?_)
  have rx3 : inI x3 := by rw [ex3]; exact hσ _ _
  refine hv_iload C 4 5 dX12_asked_23 rfl ?_
  refine hv_iadd C dX12_asked_25 ?_
  refine mo_call [.int (iz ((zn : Nat) : Int)), .int (iz x2), .int (iz (x3 + i))] [] C K (k_localOf l σ zn x2 (x3 + i) hσ (by omega) (by omega)) ck_localOf (by decide) rfl (Nat.le_of_ble_eq_true rfl) dX12_asked_26 ?_
  refine hv_nm (fun x4 ex4 => ?_)
  have hpl : x4 = pl (σ 1) s9 h i := by unfold pl; rw [hz]; subst_vars; rfl
  refine hv_istore C 6 [(6, .int (iz x4)), (5, .int (iz ((zn : Nat) : Int))), (0, .ref a0), (1, .int (iz what)), (2, .int (iz ((s9 : Nat) : Int))), (3, .int (iz ((h : Nat) : Int))), (4, .int (iz i))] dX12_asked_29 (by decide) rfl ?_
  refine hv_aload_n C 0 2 dX12_asked_31 rfl rfl ?_
  refine hv_iload_n C 3 5 dX12_asked_32 rfl rfl ?_
  refine hv_iconst C dX12_asked_33 ?_
  refine mo_call [.int (iz ((h : Nat) : Int)), .int (iz 1)] [] C K (k_hourOf l σ h 1 (by omega) (by omega)) ck_hourOf (by decide) rfl (Nat.le_of_ble_eq_true rfl) dX12_asked_34 ?_
  refine hv_nm (fun x5 ex5 => ?_)
  have rx5 : inI x5 := by rw [ex5]; exact hσ _ _
  refine hv_aload_n C 0 2 dX12_asked_37 rfl rfl ?_
  refine hv_iload_n C 3 5 dX12_asked_38 rfl rfl ?_
  refine hv_bipush C dX12_asked_39 (by decide) ?_
  refine mo_call [.int (iz ((h : Nat) : Int)), .int (iz 7)] [.int (iz x5)] C K (k_hourOf l σ h 7 (by omega) (by omega)) ck_hourOf (by decide) rfl (Nat.le_of_ble_eq_true rfl) dX12_asked_41 ?_
  refine hv_nm (fun x6 ex6 => ?_)
  have rx6 : inI x6 := by rw [ex6]; exact hσ _ _
  refine hv_isub C dX12_asked_44 ?_
  refine hv_istore C 7 [(7, .int (iz (x5 - x6))), (6, .int (iz x4)), (5, .int (iz ((zn : Nat) : Int))), (0, .ref a0), (1, .int (iz what)), (2, .int (iz ((s9 : Nat) : Int))), (3, .int (iz ((h : Nat) : Int))), (4, .int (iz i))] dX12_asked_45 (by decide) rfl ?_
  refine hv_iload_n C 1 4 dX12_asked_47 rfl rfl ?_
  rcases (by omega : what = 1 ∨ what = 2 ∨ what = 3 ∨ what = 4 ∨ what = 5 ∨ what = 6 ∨ what = 7 ∨ what = 8 ∨ (what < 1 ∨ 8 < what)) with q | q | q | q | q | q | q | q | q
  · subst q
    refine hv_tableIn C 96 ⟨by decide, by decide⟩ dX12_asked_48 (by decide) (by decide) rfl (by decide) ?_
    refine hv_aload_n C 0 3 dX12_asked_96 rfl rfl ?_
    refine hv_iload_n C 3 6 dX12_asked_97 rfl rfl ?_
    refine hv_bipush C dX12_asked_98 (by decide) ?_
    refine mo_call [.int (iz ((h : Nat) : Int)), .int (iz 6)] [] C K (k_hourOf l σ h 6 (by omega) (by omega)) ck_hourOf (by decide) rfl (Nat.le_of_ble_eq_true rfl) dX12_asked_100 ?_
    refine hv_nm (fun x7 ex7 => ?_)
    have rx7 : inI x7 := by rw [ex7]; exact hσ _ _
    refine hv_if_eq C 110 dX12_asked_103 (by decide) (by omega) (fun h103 => ?_) (fun h103 => ?_)
    · skip
      refine hv_iconst C dX12_asked_110 ?_
      exact mo_iret (Qc := fun _ _ _ _ => True) C hr hlk (by first | (simp only [ask, hz]; simp_all; done) | (unfold ask; simp; omega) | (unfold ask; rw [if_neg (by omega), if_neg (by omega), if_neg (by omega), if_neg (by omega), if_neg (by omega), if_neg (by omega), if_neg (by omega), if_neg (by omega)]; rw [hpl])) rfl dX12_asked_111
    · skip
      refine hv_iconst C dX12_asked_106 ?_
      refine hv_goto C 111 dX12_asked_107 (by decide) ?_
      exact mo_iret (Qc := fun _ _ _ _ => True) C hr hlk (by first | (simp only [ask, hz]; simp_all; done) | (unfold ask; simp; omega) | (unfold ask; rw [if_neg (by omega), if_neg (by omega), if_neg (by omega), if_neg (by omega), if_neg (by omega), if_neg (by omega), if_neg (by omega), if_neg (by omega)]; rw [hpl])) rfl dX12_asked_111
  · subst q
    refine hv_tableIn C 112 ⟨by decide, by decide⟩ dX12_asked_48 (by decide) (by decide) rfl (by decide) ?_
    refine hv_aload_n C 0 3 dX12_asked_112 rfl rfl ?_
    refine hv_iload C 5 2 dX12_asked_113 rfl ?_
    refine hv_aload_n C 0 3 dX12_asked_115 rfl rfl ?_
    refine hv_iload_n C 3 6 dX12_asked_116 rfl rfl ?_
    refine hv_iconst C dX12_asked_117 ?_
    refine mo_call [.int (iz ((h : Nat) : Int)), .int (iz 1)] [.int (iz ((zn : Nat) : Int)), .ref a0] C K (k_hourOf l σ h 1 (by omega) (by omega)) ck_hourOf (by decide) rfl (Nat.le_of_ble_eq_true rfl) dX12_asked_118 ?_
    refine hv_nm (fun x8 ex8 => ?_)
    have rx8 : inI x8 := by rw [ex8]; exact hσ _ _
    refine mo_call [.int (iz ((zn : Nat) : Int)), .int (iz x8)] [] C K (k_isSummer l σ zn x8 hσ (by omega) (by omega)) ck_isSummer (by decide) rfl (Nat.le_of_ble_eq_true rfl) dX12_asked_121 ?_
    refine hv_dif_eq C 131 dX12_asked_124 (by decide)  (fun h124 => ?_) (fun h124 => ?_)
    · skip
      refine hv_iconst C dX12_asked_131 ?_
      exact mo_iret (Qc := fun _ _ _ _ => True) C hr hlk (by first | (simp only [ask, hz]; simp_all; done) | (unfold ask; simp; omega) | (unfold ask; rw [if_neg (by omega), if_neg (by omega), if_neg (by omega), if_neg (by omega), if_neg (by omega), if_neg (by omega), if_neg (by omega), if_neg (by omega)]; rw [hpl])) rfl dX12_asked_132
    · skip
      refine hv_iconst C dX12_asked_127 ?_
      refine hv_goto C 132 dX12_asked_128 (by decide) ?_
      exact mo_iret (Qc := fun _ _ _ _ => True) C hr hlk (by first | (simp only [ask, hz]; simp_all; done) | (unfold ask; simp; omega) | (unfold ask; rw [if_neg (by omega), if_neg (by omega), if_neg (by omega), if_neg (by omega), if_neg (by omega), if_neg (by omega), if_neg (by omega), if_neg (by omega)]; rw [hpl])) rfl dX12_asked_132
  · subst q
    refine hv_tableIn C 133 ⟨by decide, by decide⟩ dX12_asked_48 (by decide) (by decide) rfl (by decide) ?_
    refine hv_iload C 6 1 dX12_asked_133 rfl ?_
    refine mo_callS [.int (iz x4)] [] C K (k_slotOf l σ x4 (by omega)) ck_slotOf (by decide) rfl (Nat.le_of_ble_eq_true rfl) dX12_asked_135 ?_
    exact mo_iret (Qc := fun _ _ _ _ => True) C hr hlk (by first | (simp only [ask, hz]; simp_all; done) | (unfold ask; simp; omega) | (unfold ask; rw [if_neg (by omega), if_neg (by omega), if_neg (by omega), if_neg (by omega), if_neg (by omega), if_neg (by omega), if_neg (by omega), if_neg (by omega)]; rw [hpl])) rfl dX12_asked_138
  · subst q
    refine hv_tableIn C 139 ⟨by decide, by decide⟩ dX12_asked_48 (by decide) (by decide) rfl (by decide) ?_
    refine hv_aload_n C 0 3 dX12_asked_139 rfl rfl ?_
    refine hv_iload_n C 2 5 dX12_asked_140 rfl rfl ?_
    refine hv_iconst C dX12_asked_141 ?_
    refine mo_call [.int (iz ((s9 : Nat) : Int)), .int (iz 2)] [] C K (k_stationOf l σ s9 2 (by omega) (by omega)) ck_stationOf (by decide) rfl (Nat.le_of_ble_eq_true rfl) dX12_asked_142 ?_
    refine hv_nm (fun x9 ex9 => ?_)
    have rx9 : inI x9 := by rw [ex9]; exact hσ _ _
    exact mo_iret (Qc := fun _ _ _ _ => True) C hr hlk (by first | (simp only [ask, hz]; simp_all; done) | (unfold ask; simp; omega) | (unfold ask; rw [if_neg (by omega), if_neg (by omega), if_neg (by omega), if_neg (by omega), if_neg (by omega), if_neg (by omega), if_neg (by omega), if_neg (by omega)]; rw [hpl])) rfl dX12_asked_145
  · subst q
    refine hv_tableIn C 146 ⟨by decide, by decide⟩ dX12_asked_48 (by decide) (by decide) rfl (by decide) ?_
    refine hv_iload C 7 0 dX12_asked_146 rfl ?_
    refine hv_if_ge C 155 dX12_asked_148 (by decide) (by omega) (fun h148 => ?_) (fun h148 => ?_)
    · skip
      refine hv_iload C 7 0 dX12_asked_155 rfl ?_
      exact mo_iret (Qc := fun _ _ _ _ => True) C hr hlk (by first | (simp only [ask, hz]; simp_all; done) | (unfold ask; simp; omega) | (unfold ask; rw [if_neg (by omega), if_neg (by omega), if_neg (by omega), if_neg (by omega), if_neg (by omega), if_neg (by omega), if_neg (by omega), if_neg (by omega)]; rw [hpl])) rfl dX12_asked_157
    · skip
      refine hv_iconst C dX12_asked_151 ?_
      refine hv_goto C 157 dX12_asked_152 (by decide) ?_
      exact mo_iret (Qc := fun _ _ _ _ => True) C hr hlk (by first | (simp only [ask, hz]; simp_all; done) | (unfold ask; simp; omega) | (unfold ask; rw [if_neg (by omega), if_neg (by omega), if_neg (by omega), if_neg (by omega), if_neg (by omega), if_neg (by omega), if_neg (by omega), if_neg (by omega)]; rw [hpl])) rfl dX12_asked_157
  · subst q
    refine hv_tableIn C 158 ⟨by decide, by decide⟩ dX12_asked_48 (by decide) (by decide) rfl (by decide) ?_
    refine hv_iload C 5 2 dX12_asked_158 rfl ?_
    exact mo_iret (Qc := fun _ _ _ _ => True) C hr hlk (by first | (simp only [ask, hz]; simp_all; done) | (unfold ask; simp; omega) | (unfold ask; rw [if_neg (by omega), if_neg (by omega), if_neg (by omega), if_neg (by omega), if_neg (by omega), if_neg (by omega), if_neg (by omega), if_neg (by omega)]; rw [hpl])) rfl dX12_asked_160
  · subst q
    refine hv_tableIn C 161 ⟨by decide, by decide⟩ dX12_asked_48 (by decide) (by decide) rfl (by decide) ?_
    refine hv_aload_n C 0 3 dX12_asked_161 rfl rfl ?_
    refine hv_iload_n C 3 6 dX12_asked_162 rfl rfl ?_
    refine hv_iconst C dX12_asked_163 ?_
    refine mo_call [.int (iz ((h : Nat) : Int)), .int (iz 5)] [] C K (k_hourOf l σ h 5 (by omega) (by omega)) ck_hourOf (by decide) rfl (Nat.le_of_ble_eq_true rfl) dX12_asked_164 ?_
    refine hv_nm (fun x10 ex10 => ?_)
    have rx10 : inI x10 := by rw [ex10]; exact hσ _ _
    exact mo_iret (Qc := fun _ _ _ _ => True) C hr hlk (by first | (simp only [ask, hz]; simp_all; done) | (unfold ask; simp; omega) | (unfold ask; rw [if_neg (by omega), if_neg (by omega), if_neg (by omega), if_neg (by omega), if_neg (by omega), if_neg (by omega), if_neg (by omega), if_neg (by omega)]; rw [hpl])) rfl dX12_asked_167
  · subst q
    refine hv_tableIn C 168 ⟨by decide, by decide⟩ dX12_asked_48 (by decide) (by decide) rfl (by decide) ?_
    refine hv_aload_n C 0 3 dX12_asked_168 rfl rfl ?_
    refine hv_iload_n C 3 6 dX12_asked_169 rfl rfl ?_
    refine hv_iconst C dX12_asked_170 ?_
    refine mo_call [.int (iz ((h : Nat) : Int)), .int (iz 3)] [] C K (k_hourOf l σ h 3 (by omega) (by omega)) ck_hourOf (by decide) rfl (Nat.le_of_ble_eq_true rfl) dX12_asked_171 ?_
    refine hv_nm (fun x11 ex11 => ?_)
    have rx11 : inI x11 := by rw [ex11]; exact hσ _ _
    exact mo_iret (Qc := fun _ _ _ _ => True) C hr hlk (by first | (simp only [ask, hz]; simp_all; done) | (unfold ask; simp; omega) | (unfold ask; rw [if_neg (by omega), if_neg (by omega), if_neg (by omega), if_neg (by omega), if_neg (by omega), if_neg (by omega), if_neg (by omega), if_neg (by omega)]; rw [hpl])) rfl dX12_asked_174
  · skip
    refine hv_tableOut C 175 (by omega) dX12_asked_48 q (by decide) ?_
    refine hv_iload C 6 1 dX12_asked_175 rfl ?_
    refine mo_callS [.int (iz x4)] [] C K (k_dayOf l σ x4 (by omega)) ck_dayOf (by decide) rfl (Nat.le_of_ble_eq_true rfl) dX12_asked_177 ?_
    refine hv_bipush C dX12_asked_180 (by decide) ?_
    refine hv_iadd C dX12_asked_182 ?_
    refine hv_bipush C dX12_asked_183 (by decide) ?_
    refine hv_irem C (by omega) (by omega) (by omega) (by omega) dX12_asked_185 ?_
    exact mo_iret (Qc := fun _ _ _ _ => True) C hr hlk (by first | (simp only [ask, hz]; simp_all; done) | (unfold ask; simp; omega) | (unfold ask; rw [if_neg (by omega), if_neg (by omega), if_neg (by omega), if_neg (by omega), if_neg (by omega), if_neg (by omega), if_neg (by omega), if_neg (by omega)]; rw [hpl])) rfl dX12_asked_186
theorem dX12_holds_0 : decode cX12_holds 0 = .ok (.iconst 1, 1) := by decide +kernel
theorem dX12_holds_1 : decode cX12_holds 1 = .ok (.istore 5, 2) := by decide +kernel
theorem dX12_holds_3 : decode cX12_holds 3 = .ok (.iconst 0, 1) := by decide +kernel
theorem dX12_holds_4 : decode cX12_holds 4 = .ok (.istore 6, 2) := by decide +kernel
theorem dX12_holds_6 : decode cX12_holds 6 = .ok (.iload 6, 2) := by decide +kernel
theorem dX12_holds_8 : decode cX12_holds 8 = .ok (.aload_n 0, 1) := by decide +kernel
theorem dX12_holds_9 : decode cX12_holds 9 = .ok (.getfield 7, 3) := by decide +kernel
theorem dX12_holds_12 : decode cX12_holds 12 = .ok (.iload_n 1, 1) := by decide +kernel
theorem dX12_holds_13 : decode cX12_holds 13 = .ok (.iaload, 1) := by decide +kernel
theorem dX12_holds_14 : decode cX12_holds 14 = .ok (.if_icmp .ge 154, 3) := by decide +kernel
theorem dX12_holds_17 : decode cX12_holds 17 = .ok (.iload 5, 2) := by decide +kernel
theorem dX12_holds_19 : decode cX12_holds 19 = .ok (.ifCond .eq 149, 3) := by decide +kernel
theorem dX12_holds_22 : decode cX12_holds 22 = .ok (.iload_n 1, 1) := by decide +kernel
theorem dX12_holds_23 : decode cX12_holds 23 = .ok (.iconst 1, 1) := by decide +kernel
theorem dX12_holds_24 : decode cX12_holds 24 = .ok (.iadd, 1) := by decide +kernel
theorem dX12_holds_25 : decode cX12_holds 25 = .ok (.iconst 4, 1) := by decide +kernel
theorem dX12_holds_26 : decode cX12_holds 26 = .ok (.iload 6, 2) := by decide +kernel
theorem dX12_holds_28 : decode cX12_holds 28 = .ok (.imul, 1) := by decide +kernel
theorem dX12_holds_29 : decode cX12_holds 29 = .ok (.iadd, 1) := by decide +kernel
theorem dX12_holds_30 : decode cX12_holds 30 = .ok (.istore 7, 2) := by decide +kernel
theorem dX12_holds_32 : decode cX12_holds 32 = .ok (.aload_n 0, 1) := by decide +kernel
theorem dX12_holds_33 : decode cX12_holds 33 = .ok (.aload_n 0, 1) := by decide +kernel
theorem dX12_holds_34 : decode cX12_holds 34 = .ok (.getfield 7, 3) := by decide +kernel
theorem dX12_holds_37 : decode cX12_holds 37 = .ok (.iload 7, 2) := by decide +kernel
theorem dX12_holds_39 : decode cX12_holds 39 = .ok (.iconst 1, 1) := by decide +kernel
theorem dX12_holds_40 : decode cX12_holds 40 = .ok (.iadd, 1) := by decide +kernel
theorem dX12_holds_41 : decode cX12_holds 41 = .ok (.iaload, 1) := by decide +kernel
theorem dX12_holds_42 : decode cX12_holds 42 = .ok (.iload_n 2, 1) := by decide +kernel
theorem dX12_holds_43 : decode cX12_holds 43 = .ok (.iload_n 3, 1) := by decide +kernel
theorem dX12_holds_44 : decode cX12_holds 44 = .ok (.iload 4, 2) := by decide +kernel
theorem dX12_holds_46 : decode cX12_holds 46 = .ok (.invokevirtual 198, 3) := by decide +kernel
theorem dX12_holds_49 : decode cX12_holds 49 = .ok (.istore 8, 2) := by decide +kernel
theorem dX12_holds_51 : decode cX12_holds 51 = .ok (.aload_n 0, 1) := by decide +kernel
theorem dX12_holds_52 : decode cX12_holds 52 = .ok (.getfield 7, 3) := by decide +kernel
theorem dX12_holds_55 : decode cX12_holds 55 = .ok (.iload 7, 2) := by decide +kernel
theorem dX12_holds_57 : decode cX12_holds 57 = .ok (.iconst 3, 1) := by decide +kernel
theorem dX12_holds_58 : decode cX12_holds 58 = .ok (.iadd, 1) := by decide +kernel
theorem dX12_holds_59 : decode cX12_holds 59 = .ok (.iaload, 1) := by decide +kernel
theorem dX12_holds_60 : decode cX12_holds 60 = .ok (.istore 9, 2) := by decide +kernel
theorem dX12_holds_62 : decode cX12_holds 62 = .ok (.aload_n 0, 1) := by decide +kernel
theorem dX12_holds_63 : decode cX12_holds 63 = .ok (.getfield 7, 3) := by decide +kernel
theorem dX12_holds_66 : decode cX12_holds 66 = .ok (.iload 7, 2) := by decide +kernel
theorem dX12_holds_68 : decode cX12_holds 68 = .ok (.iconst 2, 1) := by decide +kernel
theorem dX12_holds_69 : decode cX12_holds 69 = .ok (.iadd, 1) := by decide +kernel
theorem dX12_holds_70 : decode cX12_holds 70 = .ok (.iaload, 1) := by decide +kernel
theorem dX12_holds_71 : decode cX12_holds 71 = .ok (.bipush 60, 2) := by decide +kernel
theorem dX12_holds_73 : decode cX12_holds 73 = .ok (.if_icmp .ne 18, 3) := by decide +kernel
theorem dX12_holds_76 : decode cX12_holds 76 = .ok (.iload 8, 2) := by decide +kernel
theorem dX12_holds_78 : decode cX12_holds 78 = .ok (.iload 9, 2) := by decide +kernel
theorem dX12_holds_80 : decode cX12_holds 80 = .ok (.if_icmp .ge 7, 3) := by decide +kernel
theorem dX12_holds_83 : decode cX12_holds 83 = .ok (.iconst 1, 1) := by decide +kernel
theorem dX12_holds_84 : decode cX12_holds 84 = .ok (.goto 48, 3) := by decide +kernel
theorem dX12_holds_87 : decode cX12_holds 87 = .ok (.iconst 0, 1) := by decide +kernel
theorem dX12_holds_88 : decode cX12_holds 88 = .ok (.goto 44, 3) := by decide +kernel
theorem dX12_holds_91 : decode cX12_holds 91 = .ok (.aload_n 0, 1) := by decide +kernel
theorem dX12_holds_92 : decode cX12_holds 92 = .ok (.getfield 7, 3) := by decide +kernel
theorem dX12_holds_95 : decode cX12_holds 95 = .ok (.iload 7, 2) := by decide +kernel
theorem dX12_holds_97 : decode cX12_holds 97 = .ok (.iconst 2, 1) := by decide +kernel
theorem dX12_holds_98 : decode cX12_holds 98 = .ok (.iadd, 1) := by decide +kernel
theorem dX12_holds_99 : decode cX12_holds 99 = .ok (.iaload, 1) := by decide +kernel
theorem dX12_holds_100 : decode cX12_holds 100 = .ok (.bipush 62, 2) := by decide +kernel
theorem dX12_holds_102 : decode cX12_holds 102 = .ok (.if_icmp .ne 18, 3) := by decide +kernel
theorem dX12_holds_105 : decode cX12_holds 105 = .ok (.iload 8, 2) := by decide +kernel
theorem dX12_holds_107 : decode cX12_holds 107 = .ok (.iload 9, 2) := by decide +kernel
theorem dX12_holds_109 : decode cX12_holds 109 = .ok (.if_icmp .le 7, 3) := by decide +kernel
theorem dX12_holds_112 : decode cX12_holds 112 = .ok (.iconst 1, 1) := by decide +kernel
theorem dX12_holds_113 : decode cX12_holds 113 = .ok (.goto 19, 3) := by decide +kernel
theorem dX12_holds_116 : decode cX12_holds 116 = .ok (.iconst 0, 1) := by decide +kernel
theorem dX12_holds_117 : decode cX12_holds 117 = .ok (.goto 15, 3) := by decide +kernel
theorem dX12_holds_120 : decode cX12_holds 120 = .ok (.iload 8, 2) := by decide +kernel
theorem dX12_holds_122 : decode cX12_holds 122 = .ok (.iload 9, 2) := by decide +kernel
theorem dX12_holds_124 : decode cX12_holds 124 = .ok (.if_icmp .ne 7, 3) := by decide +kernel
theorem dX12_holds_127 : decode cX12_holds 127 = .ok (.iconst 1, 1) := by decide +kernel
theorem dX12_holds_128 : decode cX12_holds 128 = .ok (.goto 4, 3) := by decide +kernel
theorem dX12_holds_131 : decode cX12_holds 131 = .ok (.iconst 0, 1) := by decide +kernel
theorem dX12_holds_132 : decode cX12_holds 132 = .ok (.istore 10, 2) := by decide +kernel
theorem dX12_holds_134 : decode cX12_holds 134 = .ok (.iload 10, 2) := by decide +kernel
theorem dX12_holds_136 : decode cX12_holds 136 = .ok (.aload_n 0, 1) := by decide +kernel
theorem dX12_holds_137 : decode cX12_holds 137 = .ok (.getfield 7, 3) := by decide +kernel
theorem dX12_holds_140 : decode cX12_holds 140 = .ok (.iload 7, 2) := by decide +kernel
theorem dX12_holds_142 : decode cX12_holds 142 = .ok (.iaload, 1) := by decide +kernel
theorem dX12_holds_143 : decode cX12_holds 143 = .ok (.iconst 1, 1) := by decide +kernel
theorem dX12_holds_144 : decode cX12_holds 144 = .ok (.if_icmp .ne 7, 3) := by decide +kernel
theorem dX12_holds_147 : decode cX12_holds 147 = .ok (.iconst 1, 1) := by decide +kernel
theorem dX12_holds_148 : decode cX12_holds 148 = .ok (.goto 4, 3) := by decide +kernel
theorem dX12_holds_151 : decode cX12_holds 151 = .ok (.iconst 0, 1) := by decide +kernel
theorem dX12_holds_152 : decode cX12_holds 152 = .ok (.if_icmp .eq 7, 3) := by decide +kernel
theorem dX12_holds_155 : decode cX12_holds 155 = .ok (.iconst 1, 1) := by decide +kernel
theorem dX12_holds_156 : decode cX12_holds 156 = .ok (.goto 4, 3) := by decide +kernel
theorem dX12_holds_159 : decode cX12_holds 159 = .ok (.iconst 0, 1) := by decide +kernel
theorem dX12_holds_160 : decode cX12_holds 160 = .ok (.istore 5, 2) := by decide +kernel
theorem dX12_holds_162 : decode cX12_holds 162 = .ok (.iinc 6 1, 3) := by decide +kernel
theorem dX12_holds_165 : decode cX12_holds 165 = .ok (.goto (-159), 3) := by decide +kernel
theorem dX12_holds_168 : decode cX12_holds 168 = .ok (.iload 5, 2) := by decide +kernel
theorem dX12_holds_170 : decode cX12_holds 170 = .ok (.ireturn, 1) := by decide +kernel
set_option maxRecDepth 100000 in
set_option maxHeartbeats 4000000 in
theorem k_holds (l : Launch) {D : va_G} {cI cZ : ClassId} {a0 : Nat} (σ : Nat → Nat → Int) (row : Nat) (s9 : Nat) (h : Nat) (i : Int) (hσ : rg σ) (hc : cn (σ 1)) (hs : si (σ 1)) (hh : hi (σ 1)) (h1 : (s9 : Int) < σ 1 2) (h2 : (h : Int) < σ 1 4) (h3 : 0 ≤ i ∧ i ≤ 3) (hr1 : row < 1750) (hr2 : 0 ≤ σ 1 row ∧ σ 1 row ≤ 4) : moM l D cI cZ a0 yX12_holds cX12_holds 11 (some .boolean) 4 94 [.ref a0, .int (iz ((row : Nat) : Int)), .int (iz ((s9 : Nat) : Int)), .int (iz ((h : Nat) : Int)), .int (iz i)] σ (some (.int (iz (xb (hd (σ 1) row s9 h i (σ 1 row).toNat))))) (σ) := by
  refine mo_start (by decide) rfl (Nat.le_of_ble_eq_true rfl) ?_
  intro p e s m args below meth c C K hr hlk
  refine hv_iconst C dX12_holds_0 ?_
  refine hv_istore C 5 [(5, .int (iz 1)), (0, .ref a0), (1, .int (iz ((row : Nat) : Int))), (2, .int (iz ((s9 : Nat) : Int))), (3, .int (iz ((h : Nat) : Int))), (4, .int (iz i))] dX12_holds_1 (by decide) rfl ?_
  refine hv_iconst C dX12_holds_3 ?_
  refine hv_istore C 6 [(6, .int (iz 0)), (5, .int (iz 1)), (0, .ref a0), (1, .int (iz ((row : Nat) : Int))), (2, .int (iz ((s9 : Nat) : Int))), (3, .int (iz ((h : Nat) : Int))), (4, .int (iz i))] dX12_holds_4 (by decide) rfl ?_
  have L6 : ∀ (f : Nat) (t : Nat) (is : Bool), (σ 1 row).toNat - t < f → (t : Int) ≤ σ 1 row → is = hd (σ 1) row s9 h i t → hvV p l e { frames := 4, cells := 0, slots := 0, locals := 94 } s m args below meth c 11 (moR a0) 0 0 (MQ below (moQ D cI cZ a0 (some (.int (iz (xb (hd (σ 1) row s9 h i (σ 1 row).toNat))))) (σ)) args s 0 0 (moR a0)) (moI D cI cZ a0 s.heap σ) 6 [(0, .ref a0), (1, .int (iz ((row : Nat) : Int))), (2, .int (iz ((s9 : Nat) : Int))), (3, .int (iz ((h : Nat) : Int))), (4, .int (iz i)), (5, .int (iz (xb (is)))), (6, .int (iz ((t : Nat) : Int)))] [] := by
    intro f
    induction f with
    | zero => intro _ _ hm; exact absurd hm (Nat.not_lt_zero _)
    | succ f ih6 =>
      intro t is hm6 ht hb
      refine hv_iload C 6 6 dX12_holds_6 rfl ?_
      refine hv_aload_n C 0 0 dX12_holds_8 rfl rfl ?_
      refine mo_geta C K 0 1 (by decide) rfl mo_hw fl_7 rfl dX12_holds_9 ?_
      refine hv_iload_n C 1 1 dX12_holds_12 rfl rfl ?_
      refine mo_iald C K 1 9040 row rfl (by omega) (by omega) (by decide) dX12_holds_13 ?_
      refine hv_nm (fun x1 ex1 => ?_)
      have rx1 : inI x1 := by rw [ex1]; exact hσ 1 row
      refine hv_icmp_ge C 168 dX12_holds_14 (by decide) (by omega) (by omega) (fun h14 => ?_) (fun h14 => ?_)
      · skip
        refine hv_iload C 5 5 dX12_holds_168 rfl ?_
        exact mo_zret (Qc := fun _ _ _ _ => True) C hr hlk ((congrArg xb (by first | (have hq : (σ 1 row).toNat = t := (by omega); rw [hq]; exact hb) | (rw [h19] at hb; rw [hd_f (σ 1 row).toNat hb.symm (by omega)]; exact h19)))) rfl dX12_holds_170
      · skip
        refine hv_iload C 5 5 dX12_holds_17 rfl ?_
        refine hv_bif_eq C 168 dX12_holds_19 (by decide)  (fun h19 => ?_) (fun h19 => ?_)
        · skip
          refine hv_iload C 5 5 dX12_holds_168 rfl ?_
          exact mo_zret (Qc := fun _ _ _ _ => True) C hr hlk ((congrArg xb (by first | (have hq : (σ 1 row).toNat = t := (by omega); rw [hq]; exact hb) | (rw [h19] at hb; rw [hd_f (σ 1 row).toNat hb.symm (by omega)]; exact h19)))) rfl dX12_holds_170
        · skip
          refine hv_iload_n C 1 1 dX12_holds_22 rfl rfl ?_
          refine hv_iconst C dX12_holds_23 ?_
          refine hv_iadd C dX12_holds_24 ?_
          refine hv_iconst C dX12_holds_25 ?_
          refine hv_iload C 6 6 dX12_holds_26 rfl ?_
          refine hv_imul C dX12_holds_28 ?_
          refine hv_iadd C dX12_holds_29 ?_
          refine hv_istore C 7 [(7, .int (iz ((((row : Nat) : Int) + 1) + (4 * ((t : Nat) : Int))))), (0, .ref a0), (1, .int (iz ((row : Nat) : Int))), (2, .int (iz ((s9 : Nat) : Int))), (3, .int (iz ((h : Nat) : Int))), (4, .int (iz i)), (5, .int (iz (xb (is)))), (6, .int (iz ((t : Nat) : Int)))] dX12_holds_30 (by decide) rfl ?_
          refine hv_aload_n C 0 1 dX12_holds_32 rfl rfl ?_
          refine hv_aload_n C 0 1 dX12_holds_33 rfl rfl ?_
          refine mo_geta C K 0 1 (by decide) rfl mo_hw fl_7 rfl dX12_holds_34 ?_
          refine hv_iload C 7 0 dX12_holds_37 rfl ?_
          refine hv_iconst C dX12_holds_39 ?_
          refine hv_iadd C dX12_holds_40 ?_
          refine mo_iald C K 1 9040 (((row + 1) + (4 * t)) + 1) rfl (by omega) (by omega) (by decide) dX12_holds_41 ?_
          refine hv_nm (fun x2 ex2 => ?_)
          have rx2 : inI x2 := by rw [ex2]; exact hσ 1 (((row + 1) + (4 * t)) + 1)
          refine hv_iload_n C 2 3 dX12_holds_42 rfl rfl ?_
          refine hv_iload_n C 3 4 dX12_holds_43 rfl rfl ?_
          refine hv_iload C 4 5 dX12_holds_44 rfl ?_
          refine mo_call [.int (iz x2), .int (iz ((s9 : Nat) : Int)), .int (iz ((h : Nat) : Int)), .int (iz i)] [] C K (k_asked l σ x2 s9 h i hσ (by omega) (by omega) (by omega) (by omega) (by omega) (by omega) (by omega)) ck_asked (by decide) rfl (Nat.le_of_ble_eq_true rfl) dX12_holds_46 ?_
          refine hv_nm (fun x3 ex3 => ?_)
          have rx3 : inI x3 := by rw [ex3]; exact (by have h9 := ask_rng (A := σ 1) (s := s9) (h := h) (i := i) (σ 1 (((row + 1) + (4 * t)) + 1)) hs hh h1 h2 h3; subst_vars; omega)
          refine hv_istore C 8 [(8, .int (iz x3)), (7, .int (iz ((((row : Nat) : Int) + 1) + (4 * ((t : Nat) : Int))))), (0, .ref a0), (1, .int (iz ((row : Nat) : Int))), (2, .int (iz ((s9 : Nat) : Int))), (3, .int (iz ((h : Nat) : Int))), (4, .int (iz i)), (5, .int (iz (xb (is)))), (6, .int (iz ((t : Nat) : Int)))] dX12_holds_49 (by decide) rfl ?_
          refine hv_aload_n C 0 2 dX12_holds_51 rfl rfl ?_
          refine mo_geta C K 0 1 (by decide) rfl mo_hw fl_7 rfl dX12_holds_52 ?_
          refine hv_iload C 7 1 dX12_holds_55 rfl ?_
          refine hv_iconst C dX12_holds_57 ?_
          refine hv_iadd C dX12_holds_58 ?_
          refine mo_iald C K 1 9040 (((row + 1) + (4 * t)) + 3) rfl (by omega) (by omega) (by decide) dX12_holds_59 ?_
          refine hv_nm (fun x4 ex4 => ?_)
          have rx4 : inI x4 := by rw [ex4]; exact hσ 1 (((row + 1) + (4 * t)) + 3)
          refine hv_istore C 9 [(9, .int (iz x4)), (8, .int (iz x3)), (7, .int (iz ((((row : Nat) : Int) + 1) + (4 * ((t : Nat) : Int))))), (0, .ref a0), (1, .int (iz ((row : Nat) : Int))), (2, .int (iz ((s9 : Nat) : Int))), (3, .int (iz ((h : Nat) : Int))), (4, .int (iz i)), (5, .int (iz (xb (is)))), (6, .int (iz ((t : Nat) : Int)))] dX12_holds_60 (by decide) rfl ?_
          refine hv_aload_n C 0 3 dX12_holds_62 rfl rfl ?_
          refine mo_geta C K 0 1 (by decide) rfl mo_hw fl_7 rfl dX12_holds_63 ?_
          refine hv_iload C 7 2 dX12_holds_66 rfl ?_
          refine hv_iconst C dX12_holds_68 ?_
          refine hv_iadd C dX12_holds_69 ?_
          refine mo_iald C K 1 9040 (((row + 1) + (4 * t)) + 2) rfl (by omega) (by omega) (by decide) dX12_holds_70 ?_
          refine hv_nm (fun x5 ex5 => ?_)
          have rx5 : inI x5 := by rw [ex5]; exact hσ 1 (((row + 1) + (4 * t)) + 2)
          refine hv_bipush C dX12_holds_71 (by decide) ?_
          refine hv_icmp_ne C 91 dX12_holds_73 (by decide) (by omega) (by omega) (fun h73 => ?_) (fun h73 => ?_)
          · skip
            refine hv_aload_n C 0 3 dX12_holds_91 rfl rfl ?_
            refine mo_geta C K 0 1 (by decide) rfl mo_hw fl_7 rfl dX12_holds_92 ?_
            refine hv_iload C 7 2 dX12_holds_95 rfl ?_
            refine hv_iconst C dX12_holds_97 ?_
            refine hv_iadd C dX12_holds_98 ?_
            refine mo_iald C K 1 9040 (((row + 1) + (4 * t)) + 2) rfl (by omega) (by omega) (by decide) dX12_holds_99 ?_
            refine hv_nm (fun x6 ex6 => ?_)
            have rx6 : inI x6 := by rw [ex6]; exact hσ 1 (((row + 1) + (4 * t)) + 2)
            refine hv_bipush C dX12_holds_100 (by decide) ?_
            refine hv_icmp_ne C 120 dX12_holds_102 (by decide) (by omega) (by omega) (fun h102 => ?_) (fun h102 => ?_)
            · skip
              refine hv_iload C 8 1 dX12_holds_120 rfl ?_
              refine hv_iload C 9 0 dX12_holds_122 rfl ?_
              refine hv_icmp_ne C 131 dX12_holds_124 (by decide) (by omega) (by omega) (fun h124 => ?_) (fun h124 => ?_)
              · skip
                refine hv_iconst C dX12_holds_131 ?_
                refine hv_istore C 10 [(10, .int (iz 0)), (9, .int (iz x4)), (8, .int (iz x3)), (7, .int (iz ((((row : Nat) : Int) + 1) + (4 * ((t : Nat) : Int))))), (0, .ref a0), (1, .int (iz ((row : Nat) : Int))), (2, .int (iz ((s9 : Nat) : Int))), (3, .int (iz ((h : Nat) : Int))), (4, .int (iz i)), (5, .int (iz (xb (is)))), (6, .int (iz ((t : Nat) : Int)))] dX12_holds_132 (by decide) rfl ?_
                refine hv_iload C 10 0 dX12_holds_134 rfl ?_
                refine hv_aload_n C 0 4 dX12_holds_136 rfl rfl ?_
                refine mo_geta C K 0 1 (by decide) rfl mo_hw fl_7 rfl dX12_holds_137 ?_
                refine hv_iload C 7 3 dX12_holds_140 rfl ?_
                refine mo_iald C K 1 9040 ((row + 1) + (4 * t)) rfl (by omega) (by omega) (by decide) dX12_holds_142 ?_
                refine hv_nm (fun x7 ex7 => ?_)
                have rx7 : inI x7 := by rw [ex7]; exact hσ 1 ((row + 1) + (4 * t))
                refine hv_iconst C dX12_holds_143 ?_
                refine hv_icmp_ne C 151 dX12_holds_144 (by decide) (by omega) (by omega) (fun h144 => ?_) (fun h144 => ?_)
                · skip
                  refine hv_iconst C dX12_holds_151 ?_
                  refine hv_icmp_eq C 159 dX12_holds_152 (by decide) (by decide) (by decide) (fun _ => ?_) (fun h => absurd h (by decide))
                  refine hv_iconst C dX12_holds_159 ?_
                  refine hv_istore C 5 [(5, .int (iz 0)), (10, .int (iz 0)), (9, .int (iz x4)), (8, .int (iz x3)), (7, .int (iz ((((row : Nat) : Int) + 1) + (4 * ((t : Nat) : Int))))), (0, .ref a0), (1, .int (iz ((row : Nat) : Int))), (2, .int (iz ((s9 : Nat) : Int))), (3, .int (iz ((h : Nat) : Int))), (4, .int (iz i)), (6, .int (iz ((t : Nat) : Int)))] dX12_holds_160 (by decide) rfl ?_
                  refine hv_iinc C 6 10 [(6, .int (iz (((t : Nat) : Int) + 1))), (5, .int (iz 0)), (10, .int (iz 0)), (9, .int (iz x4)), (8, .int (iz x3)), (7, .int (iz ((((row : Nat) : Int) + 1) + (4 * ((t : Nat) : Int))))), (0, .ref a0), (1, .int (iz ((row : Nat) : Int))), (2, .int (iz ((s9 : Nat) : Int))), (3, .int (iz ((h : Nat) : Int))), (4, .int (iz i))] dX12_holds_162 rfl (by decide) rfl ?_
                  refine hv_goto C 6 dX12_holds_165 (by decide) ?_
                  refine hv_loc [6, 7, 8, 9, 10, 1, 0] [(0, .ref a0), (1, .int (iz ((row : Nat) : Int))), (2, .int (iz ((s9 : Nat) : Int))), (3, .int (iz ((h : Nat) : Int))), (4, .int (iz i)), (5, .int (iz 0)), (6, .int (iz (((t : Nat) : Int) + 1)))] rfl ?_
                  exact ih6 (t + 1) false (by omega) (by omega) (by simp only [hd]; rw [← hb, h19]; subst_vars; simp only [tst]; simp_all)
                · skip
                  refine hv_iconst C dX12_holds_147 ?_
                  refine hv_goto C 152 dX12_holds_148 (by decide) ?_
                  refine hv_icmp_eq C 159 dX12_holds_152 (by decide) (by decide) (by decide) (fun h => absurd h (by decide)) (fun _ => ?_)
                  refine hv_iconst C dX12_holds_155 ?_
                  refine hv_goto C 160 dX12_holds_156 (by decide) ?_
                  refine hv_istore C 5 [(5, .int (iz 1)), (10, .int (iz 0)), (9, .int (iz x4)), (8, .int (iz x3)), (7, .int (iz ((((row : Nat) : Int) + 1) + (4 * ((t : Nat) : Int))))), (0, .ref a0), (1, .int (iz ((row : Nat) : Int))), (2, .int (iz ((s9 : Nat) : Int))), (3, .int (iz ((h : Nat) : Int))), (4, .int (iz i)), (6, .int (iz ((t : Nat) : Int)))] dX12_holds_160 (by decide) rfl ?_
                  refine hv_iinc C 6 10 [(6, .int (iz (((t : Nat) : Int) + 1))), (5, .int (iz 1)), (10, .int (iz 0)), (9, .int (iz x4)), (8, .int (iz x3)), (7, .int (iz ((((row : Nat) : Int) + 1) + (4 * ((t : Nat) : Int))))), (0, .ref a0), (1, .int (iz ((row : Nat) : Int))), (2, .int (iz ((s9 : Nat) : Int))), (3, .int (iz ((h : Nat) : Int))), (4, .int (iz i))] dX12_holds_162 rfl (by decide) rfl ?_
                  refine hv_goto C 6 dX12_holds_165 (by decide) ?_
                  refine hv_loc [6, 7, 8, 9, 10, 1, 0] [(0, .ref a0), (1, .int (iz ((row : Nat) : Int))), (2, .int (iz ((s9 : Nat) : Int))), (3, .int (iz ((h : Nat) : Int))), (4, .int (iz i)), (5, .int (iz 1)), (6, .int (iz (((t : Nat) : Int) + 1)))] rfl ?_
                  exact ih6 (t + 1) true (by omega) (by omega) (by simp only [hd]; rw [← hb, h19]; subst_vars; simp only [tst]; simp_all)
              · skip
                refine hv_iconst C dX12_holds_127 ?_
                refine hv_goto C 132 dX12_holds_128 (by decide) ?_
                refine hv_istore C 10 [(10, .int (iz 1)), (9, .int (iz x4)), (8, .int (iz x3)), (7, .int (iz ((((row : Nat) : Int) + 1) + (4 * ((t : Nat) : Int))))), (0, .ref a0), (1, .int (iz ((row : Nat) : Int))), (2, .int (iz ((s9 : Nat) : Int))), (3, .int (iz ((h : Nat) : Int))), (4, .int (iz i)), (5, .int (iz (xb (is)))), (6, .int (iz ((t : Nat) : Int)))] dX12_holds_132 (by decide) rfl ?_
                refine hv_iload C 10 0 dX12_holds_134 rfl ?_
                refine hv_aload_n C 0 4 dX12_holds_136 rfl rfl ?_
                refine mo_geta C K 0 1 (by decide) rfl mo_hw fl_7 rfl dX12_holds_137 ?_
                refine hv_iload C 7 3 dX12_holds_140 rfl ?_
                refine mo_iald C K 1 9040 ((row + 1) + (4 * t)) rfl (by omega) (by omega) (by decide) dX12_holds_142 ?_
                refine hv_nm (fun x8 ex8 => ?_)
                have rx8 : inI x8 := by rw [ex8]; exact hσ 1 ((row + 1) + (4 * t))
                refine hv_iconst C dX12_holds_143 ?_
                refine hv_icmp_ne C 151 dX12_holds_144 (by decide) (by omega) (by omega) (fun h144 => ?_) (fun h144 => ?_)
                · skip
                  refine hv_iconst C dX12_holds_151 ?_
                  refine hv_icmp_eq C 159 dX12_holds_152 (by decide) (by decide) (by decide) (fun h => absurd h (by decide)) (fun _ => ?_)
                  refine hv_iconst C dX12_holds_155 ?_
                  refine hv_goto C 160 dX12_holds_156 (by decide) ?_
                  refine hv_istore C 5 [(5, .int (iz 1)), (10, .int (iz 1)), (9, .int (iz x4)), (8, .int (iz x3)), (7, .int (iz ((((row : Nat) : Int) + 1) + (4 * ((t : Nat) : Int))))), (0, .ref a0), (1, .int (iz ((row : Nat) : Int))), (2, .int (iz ((s9 : Nat) : Int))), (3, .int (iz ((h : Nat) : Int))), (4, .int (iz i)), (6, .int (iz ((t : Nat) : Int)))] dX12_holds_160 (by decide) rfl ?_
                  refine hv_iinc C 6 10 [(6, .int (iz (((t : Nat) : Int) + 1))), (5, .int (iz 1)), (10, .int (iz 1)), (9, .int (iz x4)), (8, .int (iz x3)), (7, .int (iz ((((row : Nat) : Int) + 1) + (4 * ((t : Nat) : Int))))), (0, .ref a0), (1, .int (iz ((row : Nat) : Int))), (2, .int (iz ((s9 : Nat) : Int))), (3, .int (iz ((h : Nat) : Int))), (4, .int (iz i))] dX12_holds_162 rfl (by decide) rfl ?_
                  refine hv_goto C 6 dX12_holds_165 (by decide) ?_
                  refine hv_loc [6, 7, 8, 9, 10, 1, 0] [(0, .ref a0), (1, .int (iz ((row : Nat) : Int))), (2, .int (iz ((s9 : Nat) : Int))), (3, .int (iz ((h : Nat) : Int))), (4, .int (iz i)), (5, .int (iz 1)), (6, .int (iz (((t : Nat) : Int) + 1)))] rfl ?_
                  exact ih6 (t + 1) true (by omega) (by omega) (by simp only [hd]; rw [← hb, h19]; subst_vars; simp only [tst]; simp_all)
                · skip
                  refine hv_iconst C dX12_holds_147 ?_
                  refine hv_goto C 152 dX12_holds_148 (by decide) ?_
                  refine hv_icmp_eq C 159 dX12_holds_152 (by decide) (by decide) (by decide) (fun _ => ?_) (fun h => absurd h (by decide))
                  refine hv_iconst C dX12_holds_159 ?_
                  refine hv_istore C 5 [(5, .int (iz 0)), (10, .int (iz 1)), (9, .int (iz x4)), (8, .int (iz x3)), (7, .int (iz ((((row : Nat) : Int) + 1) + (4 * ((t : Nat) : Int))))), (0, .ref a0), (1, .int (iz ((row : Nat) : Int))), (2, .int (iz ((s9 : Nat) : Int))), (3, .int (iz ((h : Nat) : Int))), (4, .int (iz i)), (6, .int (iz ((t : Nat) : Int)))] dX12_holds_160 (by decide) rfl ?_
                  refine hv_iinc C 6 10 [(6, .int (iz (((t : Nat) : Int) + 1))), (5, .int (iz 0)), (10, .int (iz 1)), (9, .int (iz x4)), (8, .int (iz x3)), (7, .int (iz ((((row : Nat) : Int) + 1) + (4 * ((t : Nat) : Int))))), (0, .ref a0), (1, .int (iz ((row : Nat) : Int))), (2, .int (iz ((s9 : Nat) : Int))), (3, .int (iz ((h : Nat) : Int))), (4, .int (iz i))] dX12_holds_162 rfl (by decide) rfl ?_
                  refine hv_goto C 6 dX12_holds_165 (by decide) ?_
                  refine hv_loc [6, 7, 8, 9, 10, 1, 0] [(0, .ref a0), (1, .int (iz ((row : Nat) : Int))), (2, .int (iz ((s9 : Nat) : Int))), (3, .int (iz ((h : Nat) : Int))), (4, .int (iz i)), (5, .int (iz 0)), (6, .int (iz (((t : Nat) : Int) + 1)))] rfl ?_
                  exact ih6 (t + 1) false (by omega) (by omega) (by simp only [hd]; rw [← hb, h19]; subst_vars; simp only [tst]; simp_all)
            · skip
              refine hv_iload C 8 1 dX12_holds_105 rfl ?_
              refine hv_iload C 9 0 dX12_holds_107 rfl ?_
              refine hv_icmp_le C 116 dX12_holds_109 (by decide) (by omega) (by omega) (fun h109 => ?_) (fun h109 => ?_)
              · skip
                refine hv_iconst C dX12_holds_116 ?_
                refine hv_goto C 132 dX12_holds_117 (by decide) ?_
                refine hv_istore C 10 [(10, .int (iz 0)), (9, .int (iz x4)), (8, .int (iz x3)), (7, .int (iz ((((row : Nat) : Int) + 1) + (4 * ((t : Nat) : Int))))), (0, .ref a0), (1, .int (iz ((row : Nat) : Int))), (2, .int (iz ((s9 : Nat) : Int))), (3, .int (iz ((h : Nat) : Int))), (4, .int (iz i)), (5, .int (iz (xb (is)))), (6, .int (iz ((t : Nat) : Int)))] dX12_holds_132 (by decide) rfl ?_
                refine hv_iload C 10 0 dX12_holds_134 rfl ?_
                refine hv_aload_n C 0 4 dX12_holds_136 rfl rfl ?_
                refine mo_geta C K 0 1 (by decide) rfl mo_hw fl_7 rfl dX12_holds_137 ?_
                refine hv_iload C 7 3 dX12_holds_140 rfl ?_
                refine mo_iald C K 1 9040 ((row + 1) + (4 * t)) rfl (by omega) (by omega) (by decide) dX12_holds_142 ?_
                refine hv_nm (fun x9 ex9 => ?_)
                have rx9 : inI x9 := by rw [ex9]; exact hσ 1 ((row + 1) + (4 * t))
                refine hv_iconst C dX12_holds_143 ?_
                refine hv_icmp_ne C 151 dX12_holds_144 (by decide) (by omega) (by omega) (fun h144 => ?_) (fun h144 => ?_)
                · skip
                  refine hv_iconst C dX12_holds_151 ?_
                  refine hv_icmp_eq C 159 dX12_holds_152 (by decide) (by decide) (by decide) (fun _ => ?_) (fun h => absurd h (by decide))
                  refine hv_iconst C dX12_holds_159 ?_
                  refine hv_istore C 5 [(5, .int (iz 0)), (10, .int (iz 0)), (9, .int (iz x4)), (8, .int (iz x3)), (7, .int (iz ((((row : Nat) : Int) + 1) + (4 * ((t : Nat) : Int))))), (0, .ref a0), (1, .int (iz ((row : Nat) : Int))), (2, .int (iz ((s9 : Nat) : Int))), (3, .int (iz ((h : Nat) : Int))), (4, .int (iz i)), (6, .int (iz ((t : Nat) : Int)))] dX12_holds_160 (by decide) rfl ?_
                  refine hv_iinc C 6 10 [(6, .int (iz (((t : Nat) : Int) + 1))), (5, .int (iz 0)), (10, .int (iz 0)), (9, .int (iz x4)), (8, .int (iz x3)), (7, .int (iz ((((row : Nat) : Int) + 1) + (4 * ((t : Nat) : Int))))), (0, .ref a0), (1, .int (iz ((row : Nat) : Int))), (2, .int (iz ((s9 : Nat) : Int))), (3, .int (iz ((h : Nat) : Int))), (4, .int (iz i))] dX12_holds_162 rfl (by decide) rfl ?_
                  refine hv_goto C 6 dX12_holds_165 (by decide) ?_
                  refine hv_loc [6, 7, 8, 9, 10, 1, 0] [(0, .ref a0), (1, .int (iz ((row : Nat) : Int))), (2, .int (iz ((s9 : Nat) : Int))), (3, .int (iz ((h : Nat) : Int))), (4, .int (iz i)), (5, .int (iz 0)), (6, .int (iz (((t : Nat) : Int) + 1)))] rfl ?_
                  exact ih6 (t + 1) false (by omega) (by omega) (by simp only [hd]; rw [← hb, h19]; subst_vars; simp only [tst]; simp_all)
                · skip
                  refine hv_iconst C dX12_holds_147 ?_
                  refine hv_goto C 152 dX12_holds_148 (by decide) ?_
                  refine hv_icmp_eq C 159 dX12_holds_152 (by decide) (by decide) (by decide) (fun h => absurd h (by decide)) (fun _ => ?_)
                  refine hv_iconst C dX12_holds_155 ?_
                  refine hv_goto C 160 dX12_holds_156 (by decide) ?_
                  refine hv_istore C 5 [(5, .int (iz 1)), (10, .int (iz 0)), (9, .int (iz x4)), (8, .int (iz x3)), (7, .int (iz ((((row : Nat) : Int) + 1) + (4 * ((t : Nat) : Int))))), (0, .ref a0), (1, .int (iz ((row : Nat) : Int))), (2, .int (iz ((s9 : Nat) : Int))), (3, .int (iz ((h : Nat) : Int))), (4, .int (iz i)), (6, .int (iz ((t : Nat) : Int)))] dX12_holds_160 (by decide) rfl ?_
                  refine hv_iinc C 6 10 [(6, .int (iz (((t : Nat) : Int) + 1))), (5, .int (iz 1)), (10, .int (iz 0)), (9, .int (iz x4)), (8, .int (iz x3)), (7, .int (iz ((((row : Nat) : Int) + 1) + (4 * ((t : Nat) : Int))))), (0, .ref a0), (1, .int (iz ((row : Nat) : Int))), (2, .int (iz ((s9 : Nat) : Int))), (3, .int (iz ((h : Nat) : Int))), (4, .int (iz i))] dX12_holds_162 rfl (by decide) rfl ?_
                  refine hv_goto C 6 dX12_holds_165 (by decide) ?_
                  refine hv_loc [6, 7, 8, 9, 10, 1, 0] [(0, .ref a0), (1, .int (iz ((row : Nat) : Int))), (2, .int (iz ((s9 : Nat) : Int))), (3, .int (iz ((h : Nat) : Int))), (4, .int (iz i)), (5, .int (iz 1)), (6, .int (iz (((t : Nat) : Int) + 1)))] rfl ?_
                  exact ih6 (t + 1) true (by omega) (by omega) (by simp only [hd]; rw [← hb, h19]; subst_vars; simp only [tst]; simp_all)
              · skip
                refine hv_iconst C dX12_holds_112 ?_
                refine hv_goto C 132 dX12_holds_113 (by decide) ?_
                refine hv_istore C 10 [(10, .int (iz 1)), (9, .int (iz x4)), (8, .int (iz x3)), (7, .int (iz ((((row : Nat) : Int) + 1) + (4 * ((t : Nat) : Int))))), (0, .ref a0), (1, .int (iz ((row : Nat) : Int))), (2, .int (iz ((s9 : Nat) : Int))), (3, .int (iz ((h : Nat) : Int))), (4, .int (iz i)), (5, .int (iz (xb (is)))), (6, .int (iz ((t : Nat) : Int)))] dX12_holds_132 (by decide) rfl ?_
                refine hv_iload C 10 0 dX12_holds_134 rfl ?_
                refine hv_aload_n C 0 4 dX12_holds_136 rfl rfl ?_
                refine mo_geta C K 0 1 (by decide) rfl mo_hw fl_7 rfl dX12_holds_137 ?_
                refine hv_iload C 7 3 dX12_holds_140 rfl ?_
                refine mo_iald C K 1 9040 ((row + 1) + (4 * t)) rfl (by omega) (by omega) (by decide) dX12_holds_142 ?_
                refine hv_nm (fun x10 ex10 => ?_)
                have rx10 : inI x10 := by rw [ex10]; exact hσ 1 ((row + 1) + (4 * t))
                refine hv_iconst C dX12_holds_143 ?_
                refine hv_icmp_ne C 151 dX12_holds_144 (by decide) (by omega) (by omega) (fun h144 => ?_) (fun h144 => ?_)
                · skip
                  refine hv_iconst C dX12_holds_151 ?_
                  refine hv_icmp_eq C 159 dX12_holds_152 (by decide) (by decide) (by decide) (fun h => absurd h (by decide)) (fun _ => ?_)
                  refine hv_iconst C dX12_holds_155 ?_
                  refine hv_goto C 160 dX12_holds_156 (by decide) ?_
                  refine hv_istore C 5 [(5, .int (iz 1)), (10, .int (iz 1)), (9, .int (iz x4)), (8, .int (iz x3)), (7, .int (iz ((((row : Nat) : Int) + 1) + (4 * ((t : Nat) : Int))))), (0, .ref a0), (1, .int (iz ((row : Nat) : Int))), (2, .int (iz ((s9 : Nat) : Int))), (3, .int (iz ((h : Nat) : Int))), (4, .int (iz i)), (6, .int (iz ((t : Nat) : Int)))] dX12_holds_160 (by decide) rfl ?_
                  refine hv_iinc C 6 10 [(6, .int (iz (((t : Nat) : Int) + 1))), (5, .int (iz 1)), (10, .int (iz 1)), (9, .int (iz x4)), (8, .int (iz x3)), (7, .int (iz ((((row : Nat) : Int) + 1) + (4 * ((t : Nat) : Int))))), (0, .ref a0), (1, .int (iz ((row : Nat) : Int))), (2, .int (iz ((s9 : Nat) : Int))), (3, .int (iz ((h : Nat) : Int))), (4, .int (iz i))] dX12_holds_162 rfl (by decide) rfl ?_
                  refine hv_goto C 6 dX12_holds_165 (by decide) ?_
                  refine hv_loc [6, 7, 8, 9, 10, 1, 0] [(0, .ref a0), (1, .int (iz ((row : Nat) : Int))), (2, .int (iz ((s9 : Nat) : Int))), (3, .int (iz ((h : Nat) : Int))), (4, .int (iz i)), (5, .int (iz 1)), (6, .int (iz (((t : Nat) : Int) + 1)))] rfl ?_
                  exact ih6 (t + 1) true (by omega) (by omega) (by simp only [hd]; rw [← hb, h19]; subst_vars; simp only [tst]; simp_all)
                · skip
                  refine hv_iconst C dX12_holds_147 ?_
                  refine hv_goto C 152 dX12_holds_148 (by decide) ?_
                  refine hv_icmp_eq C 159 dX12_holds_152 (by decide) (by decide) (by decide) (fun _ => ?_) (fun h => absurd h (by decide))
                  refine hv_iconst C dX12_holds_159 ?_
                  refine hv_istore C 5 [(5, .int (iz 0)), (10, .int (iz 1)), (9, .int (iz x4)), (8, .int (iz x3)), (7, .int (iz ((((row : Nat) : Int) + 1) + (4 * ((t : Nat) : Int))))), (0, .ref a0), (1, .int (iz ((row : Nat) : Int))), (2, .int (iz ((s9 : Nat) : Int))), (3, .int (iz ((h : Nat) : Int))), (4, .int (iz i)), (6, .int (iz ((t : Nat) : Int)))] dX12_holds_160 (by decide) rfl ?_
                  refine hv_iinc C 6 10 [(6, .int (iz (((t : Nat) : Int) + 1))), (5, .int (iz 0)), (10, .int (iz 1)), (9, .int (iz x4)), (8, .int (iz x3)), (7, .int (iz ((((row : Nat) : Int) + 1) + (4 * ((t : Nat) : Int))))), (0, .ref a0), (1, .int (iz ((row : Nat) : Int))), (2, .int (iz ((s9 : Nat) : Int))), (3, .int (iz ((h : Nat) : Int))), (4, .int (iz i))] dX12_holds_162 rfl (by decide) rfl ?_
                  refine hv_goto C 6 dX12_holds_165 (by decide) ?_
                  refine hv_loc [6, 7, 8, 9, 10, 1, 0] [(0, .ref a0), (1, .int (iz ((row : Nat) : Int))), (2, .int (iz ((s9 : Nat) : Int))), (3, .int (iz ((h : Nat) : Int))), (4, .int (iz i)), (5, .int (iz 0)), (6, .int (iz (((t : Nat) : Int) + 1)))] rfl ?_
                  exact ih6 (t + 1) false (by omega) (by omega) (by simp only [hd]; rw [← hb, h19]; subst_vars; simp only [tst]; simp_all)
          · skip
            refine hv_iload C 8 1 dX12_holds_76 rfl ?_
            refine hv_iload C 9 0 dX12_holds_78 rfl ?_
            refine hv_icmp_ge C 87 dX12_holds_80 (by decide) (by omega) (by omega) (fun h80 => ?_) (fun h80 => ?_)
            · skip
              refine hv_iconst C dX12_holds_87 ?_
              refine hv_goto C 132 dX12_holds_88 (by decide) ?_
              refine hv_istore C 10 [(10, .int (iz 0)), (9, .int (iz x4)), (8, .int (iz x3)), (7, .int (iz ((((row : Nat) : Int) + 1) + (4 * ((t : Nat) : Int))))), (0, .ref a0), (1, .int (iz ((row : Nat) : Int))), (2, .int (iz ((s9 : Nat) : Int))), (3, .int (iz ((h : Nat) : Int))), (4, .int (iz i)), (5, .int (iz (xb (is)))), (6, .int (iz ((t : Nat) : Int)))] dX12_holds_132 (by decide) rfl ?_
              refine hv_iload C 10 0 dX12_holds_134 rfl ?_
              refine hv_aload_n C 0 4 dX12_holds_136 rfl rfl ?_
              refine mo_geta C K 0 1 (by decide) rfl mo_hw fl_7 rfl dX12_holds_137 ?_
              refine hv_iload C 7 3 dX12_holds_140 rfl ?_
              refine mo_iald C K 1 9040 ((row + 1) + (4 * t)) rfl (by omega) (by omega) (by decide) dX12_holds_142 ?_
              refine hv_nm (fun x11 ex11 => ?_)
              have rx11 : inI x11 := by rw [ex11]; exact hσ 1 ((row + 1) + (4 * t))
              refine hv_iconst C dX12_holds_143 ?_
              refine hv_icmp_ne C 151 dX12_holds_144 (by decide) (by omega) (by omega) (fun h144 => ?_) (fun h144 => ?_)
              · skip
                refine hv_iconst C dX12_holds_151 ?_
                refine hv_icmp_eq C 159 dX12_holds_152 (by decide) (by decide) (by decide) (fun _ => ?_) (fun h => absurd h (by decide))
                refine hv_iconst C dX12_holds_159 ?_
                refine hv_istore C 5 [(5, .int (iz 0)), (10, .int (iz 0)), (9, .int (iz x4)), (8, .int (iz x3)), (7, .int (iz ((((row : Nat) : Int) + 1) + (4 * ((t : Nat) : Int))))), (0, .ref a0), (1, .int (iz ((row : Nat) : Int))), (2, .int (iz ((s9 : Nat) : Int))), (3, .int (iz ((h : Nat) : Int))), (4, .int (iz i)), (6, .int (iz ((t : Nat) : Int)))] dX12_holds_160 (by decide) rfl ?_
                refine hv_iinc C 6 10 [(6, .int (iz (((t : Nat) : Int) + 1))), (5, .int (iz 0)), (10, .int (iz 0)), (9, .int (iz x4)), (8, .int (iz x3)), (7, .int (iz ((((row : Nat) : Int) + 1) + (4 * ((t : Nat) : Int))))), (0, .ref a0), (1, .int (iz ((row : Nat) : Int))), (2, .int (iz ((s9 : Nat) : Int))), (3, .int (iz ((h : Nat) : Int))), (4, .int (iz i))] dX12_holds_162 rfl (by decide) rfl ?_
                refine hv_goto C 6 dX12_holds_165 (by decide) ?_
                refine hv_loc [6, 7, 8, 9, 10, 1, 0] [(0, .ref a0), (1, .int (iz ((row : Nat) : Int))), (2, .int (iz ((s9 : Nat) : Int))), (3, .int (iz ((h : Nat) : Int))), (4, .int (iz i)), (5, .int (iz 0)), (6, .int (iz (((t : Nat) : Int) + 1)))] rfl ?_
                exact ih6 (t + 1) false (by omega) (by omega) (by simp only [hd]; rw [← hb, h19]; subst_vars; simp only [tst]; simp_all)
              · skip
                refine hv_iconst C dX12_holds_147 ?_
                refine hv_goto C 152 dX12_holds_148 (by decide) ?_
                refine hv_icmp_eq C 159 dX12_holds_152 (by decide) (by decide) (by decide) (fun h => absurd h (by decide)) (fun _ => ?_)
                refine hv_iconst C dX12_holds_155 ?_
                refine hv_goto C 160 dX12_holds_156 (by decide) ?_
                refine hv_istore C 5 [(5, .int (iz 1)), (10, .int (iz 0)), (9, .int (iz x4)), (8, .int (iz x3)), (7, .int (iz ((((row : Nat) : Int) + 1) + (4 * ((t : Nat) : Int))))), (0, .ref a0), (1, .int (iz ((row : Nat) : Int))), (2, .int (iz ((s9 : Nat) : Int))), (3, .int (iz ((h : Nat) : Int))), (4, .int (iz i)), (6, .int (iz ((t : Nat) : Int)))] dX12_holds_160 (by decide) rfl ?_
                refine hv_iinc C 6 10 [(6, .int (iz (((t : Nat) : Int) + 1))), (5, .int (iz 1)), (10, .int (iz 0)), (9, .int (iz x4)), (8, .int (iz x3)), (7, .int (iz ((((row : Nat) : Int) + 1) + (4 * ((t : Nat) : Int))))), (0, .ref a0), (1, .int (iz ((row : Nat) : Int))), (2, .int (iz ((s9 : Nat) : Int))), (3, .int (iz ((h : Nat) : Int))), (4, .int (iz i))] dX12_holds_162 rfl (by decide) rfl ?_
                refine hv_goto C 6 dX12_holds_165 (by decide) ?_
                refine hv_loc [6, 7, 8, 9, 10, 1, 0] [(0, .ref a0), (1, .int (iz ((row : Nat) : Int))), (2, .int (iz ((s9 : Nat) : Int))), (3, .int (iz ((h : Nat) : Int))), (4, .int (iz i)), (5, .int (iz 1)), (6, .int (iz (((t : Nat) : Int) + 1)))] rfl ?_
                exact ih6 (t + 1) true (by omega) (by omega) (by simp only [hd]; rw [← hb, h19]; subst_vars; simp only [tst]; simp_all)
            · skip
              refine hv_iconst C dX12_holds_83 ?_
              refine hv_goto C 132 dX12_holds_84 (by decide) ?_
              refine hv_istore C 10 [(10, .int (iz 1)), (9, .int (iz x4)), (8, .int (iz x3)), (7, .int (iz ((((row : Nat) : Int) + 1) + (4 * ((t : Nat) : Int))))), (0, .ref a0), (1, .int (iz ((row : Nat) : Int))), (2, .int (iz ((s9 : Nat) : Int))), (3, .int (iz ((h : Nat) : Int))), (4, .int (iz i)), (5, .int (iz (xb (is)))), (6, .int (iz ((t : Nat) : Int)))] dX12_holds_132 (by decide) rfl ?_
              refine hv_iload C 10 0 dX12_holds_134 rfl ?_
              refine hv_aload_n C 0 4 dX12_holds_136 rfl rfl ?_
              refine mo_geta C K 0 1 (by decide) rfl mo_hw fl_7 rfl dX12_holds_137 ?_
              refine hv_iload C 7 3 dX12_holds_140 rfl ?_
              refine mo_iald C K 1 9040 ((row + 1) + (4 * t)) rfl (by omega) (by omega) (by decide) dX12_holds_142 ?_
              refine hv_nm (fun x12 ex12 => ?_)
              have rx12 : inI x12 := by rw [ex12]; exact hσ 1 ((row + 1) + (4 * t))
              refine hv_iconst C dX12_holds_143 ?_
              refine hv_icmp_ne C 151 dX12_holds_144 (by decide) (by omega) (by omega) (fun h144 => ?_) (fun h144 => ?_)
              · skip
                refine hv_iconst C dX12_holds_151 ?_
                refine hv_icmp_eq C 159 dX12_holds_152 (by decide) (by decide) (by decide) (fun h => absurd h (by decide)) (fun _ => ?_)
                refine hv_iconst C dX12_holds_155 ?_
                refine hv_goto C 160 dX12_holds_156 (by decide) ?_
                refine hv_istore C 5 [(5, .int (iz 1)), (10, .int (iz 1)), (9, .int (iz x4)), (8, .int (iz x3)), (7, .int (iz ((((row : Nat) : Int) + 1) + (4 * ((t : Nat) : Int))))), (0, .ref a0), (1, .int (iz ((row : Nat) : Int))), (2, .int (iz ((s9 : Nat) : Int))), (3, .int (iz ((h : Nat) : Int))), (4, .int (iz i)), (6, .int (iz ((t : Nat) : Int)))] dX12_holds_160 (by decide) rfl ?_
                refine hv_iinc C 6 10 [(6, .int (iz (((t : Nat) : Int) + 1))), (5, .int (iz 1)), (10, .int (iz 1)), (9, .int (iz x4)), (8, .int (iz x3)), (7, .int (iz ((((row : Nat) : Int) + 1) + (4 * ((t : Nat) : Int))))), (0, .ref a0), (1, .int (iz ((row : Nat) : Int))), (2, .int (iz ((s9 : Nat) : Int))), (3, .int (iz ((h : Nat) : Int))), (4, .int (iz i))] dX12_holds_162 rfl (by decide) rfl ?_
                refine hv_goto C 6 dX12_holds_165 (by decide) ?_
                refine hv_loc [6, 7, 8, 9, 10, 1, 0] [(0, .ref a0), (1, .int (iz ((row : Nat) : Int))), (2, .int (iz ((s9 : Nat) : Int))), (3, .int (iz ((h : Nat) : Int))), (4, .int (iz i)), (5, .int (iz 1)), (6, .int (iz (((t : Nat) : Int) + 1)))] rfl ?_
                exact ih6 (t + 1) true (by omega) (by omega) (by simp only [hd]; rw [← hb, h19]; subst_vars; simp only [tst]; simp_all)
              · skip
                refine hv_iconst C dX12_holds_147 ?_
                refine hv_goto C 152 dX12_holds_148 (by decide) ?_
                refine hv_icmp_eq C 159 dX12_holds_152 (by decide) (by decide) (by decide) (fun _ => ?_) (fun h => absurd h (by decide))
                refine hv_iconst C dX12_holds_159 ?_
                refine hv_istore C 5 [(5, .int (iz 0)), (10, .int (iz 1)), (9, .int (iz x4)), (8, .int (iz x3)), (7, .int (iz ((((row : Nat) : Int) + 1) + (4 * ((t : Nat) : Int))))), (0, .ref a0), (1, .int (iz ((row : Nat) : Int))), (2, .int (iz ((s9 : Nat) : Int))), (3, .int (iz ((h : Nat) : Int))), (4, .int (iz i)), (6, .int (iz ((t : Nat) : Int)))] dX12_holds_160 (by decide) rfl ?_
                refine hv_iinc C 6 10 [(6, .int (iz (((t : Nat) : Int) + 1))), (5, .int (iz 0)), (10, .int (iz 1)), (9, .int (iz x4)), (8, .int (iz x3)), (7, .int (iz ((((row : Nat) : Int) + 1) + (4 * ((t : Nat) : Int))))), (0, .ref a0), (1, .int (iz ((row : Nat) : Int))), (2, .int (iz ((s9 : Nat) : Int))), (3, .int (iz ((h : Nat) : Int))), (4, .int (iz i))] dX12_holds_162 rfl (by decide) rfl ?_
                refine hv_goto C 6 dX12_holds_165 (by decide) ?_
                refine hv_loc [6, 7, 8, 9, 10, 1, 0] [(0, .ref a0), (1, .int (iz ((row : Nat) : Int))), (2, .int (iz ((s9 : Nat) : Int))), (3, .int (iz ((h : Nat) : Int))), (4, .int (iz i)), (5, .int (iz 0)), (6, .int (iz (((t : Nat) : Int) + 1)))] rfl ?_
                exact ih6 (t + 1) false (by omega) (by omega) (by simp only [hd]; rw [← hb, h19]; subst_vars; simp only [tst]; simp_all)
  refine hv_loc [2, 3, 4, 5, 6, 1, 0] [(0, .ref a0), (1, .int (iz ((row : Nat) : Int))), (2, .int (iz ((s9 : Nat) : Int))), (3, .int (iz ((h : Nat) : Int))), (4, .int (iz i)), (5, .int (iz 1)), (6, .int (iz 0))] rfl ?_
  exact L6 _ 0 true (Nat.lt_succ_self _) (by omega) rfl
