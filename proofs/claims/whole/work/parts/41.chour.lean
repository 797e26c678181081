def cnd9 (A : Nat → Int) (s : Nat) (d t w : Int) (h : Nat) : Bool := decide (A (280 + 8 * h + 0) = w) && thb A h d t && clr A s h (t - A (280 + 8 * h + 2))
abbrev thP (A : Nat → Int) (h : Nat) (d t : Int) : Prop := (A 9 = -1 ∨ A (280 + 8 * h + 7) ≤ A 9) ∧ A (280 + 8 * h + 1) = d ∧ (A (280 + 8 * h + 2) ≤ t ∧ t ≤ A (280 + 8 * h + 2) + A (280 + 8 * h + 3) - 1)
theorem cnd_f1 {A : Nat → Int} {s h : Nat} {d t w : Int} (e : ¬ (A (280 + 8 * h + 0) = w ∧ ((A 9 = -1 ∨ A (280 + 8 * h + 7) ≤ A 9) ∧ A (280 + 8 * h + 1) = d ∧ (A (280 + 8 * h + 2) ≤ t ∧ t ≤ A (280 + 8 * h + 2) + A (280 + 8 * h + 3) - 1)))) : cnd9 A s d t w h = false := by
  have k : (decide (A (280 + 8 * h + 0) = w) && thb A h d t) = false := by
    rw [show thb A h d t = decide ((A 9 = -1 ∨ A (280 + 8 * h + 7) ≤ A 9) ∧ A (280 + 8 * h + 1) = d ∧ (A (280 + 8 * h + 2) ≤ t ∧ t ≤ A (280 + 8 * h + 2) + A (280 + 8 * h + 3) - 1)) from rfl, ← Bool.decide_and]
    exact decide_eq_false e
  unfold cnd9
  rw [k]; rfl
theorem cnd_f2 {A : Nat → Int} {s h : Nat} {d t w : Int} (e : clr A s h (t - A (280 + 8 * h + 2)) = false) : cnd9 A s d t w h = false := by
  unfold cnd9
  rw [e, Bool.and_false]
theorem cnd_t {A : Nat → Int} {s h : Nat} {d t w : Int} (e1 : A (280 + 8 * h + 0) = w) (e2 : ((A 9 = -1 ∨ A (280 + 8 * h + 7) ≤ A 9) ∧ A (280 + 8 * h + 1) = d ∧ (A (280 + 8 * h + 2) ≤ t ∧ t ≤ A (280 + 8 * h + 2) + A (280 + 8 * h + 3) - 1))) (e3 : clr A s h (t - A (280 + 8 * h + 2)) = true) : cnd9 A s d t w h = true := by
  unfold cnd9
  rw [e3, decide_eq_true e1, show thb A h d t = true from decide_eq_true e2]; rfl
/-- the hour that a station sends, or none -/
def hk9 (A : Nat → Int) (s : Nat) (d t w : Int) : Nat → Nat → Int → Int
  | 0, _, kept => kept
  | f + 1, h, kept => if cnd9 A s d t w h = true then (if A (280 + 8 * h + 6) / 2 ^ s % 2 ^ 1 = 1 then (h : Int) else if A (280 + 8 * h + 6) = 0 ∧ kept < 0 then hk9 A s d t w f (h + 1) h else hk9 A s d t w f (h + 1) kept) else hk9 A s d t w f (h + 1) kept
theorem hk_sh (A : Nat → Int) (s : Nat) (d t w : Int) : ∀ (f h : Nat) (kept : Int), sh A s d t w f h kept = if 0 ≤ hk9 A s d t w f h kept then hk9 A s d t w f h kept else own A s d t
  | 0, h, kept => rfl
  | f + 1, h, kept => by
    unfold sh hk9
    rw [show (decide (A (280 + 8 * h + 0) = w) && thb A h d t && clr A s h (t - A (280 + 8 * h + 2))) = cnd9 A s d t w h from rfl]
    by_cases c : cnd9 A s d t w h = true
    · rw [if_pos c, if_pos c]
      by_cases c2 : A (280 + 8 * h + 6) / 2 ^ s % 2 ^ 1 = 1
      · rw [if_pos c2, if_pos c2, if_pos (by omega)]
      · rw [if_neg c2, if_neg c2]
        by_cases c3 : A (280 + 8 * h + 6) = 0 ∧ kept < 0
        · rw [if_pos c3, if_pos c3]; exact hk_sh A s d t w f (h + 1) h
        · rw [if_neg c3, if_neg c3]; exact hk_sh A s d t w f (h + 1) kept
    · rw [if_neg c, if_neg c]; exact hk_sh A s d t w f (h + 1) kept
theorem hk_1 {A : Nat → Int} {s h f : Nat} {d t w kept : Int} (hf : 0 < f) (e : cnd9 A s d t w h = false ∨ (¬ A (280 + 8 * h + 6) / 2 ^ s % 2 ^ 1 = 1 ∧ ¬ (A (280 + 8 * h + 6) = 0 ∧ kept < 0))) : hk9 A s d t w f h kept = hk9 A s d t w (f - 1) (h + 1) kept := by
  obtain ⟨g, rfl⟩ : ∃ q, f = q + 1 := ⟨f - 1, by omega⟩
  conv => lhs; unfold hk9
  rcases e with e | e
  · rw [if_neg (by rw [e]; decide)]; rfl
  · rw [if_neg e.1, if_neg e.2]
    split <;> rfl
theorem hk_2 {A : Nat → Int} {s h f : Nat} {d t w kept : Int} (hf : 0 < f) (e : cnd9 A s d t w h = true) (e2 : A (280 + 8 * h + 6) / 2 ^ s % 2 ^ 1 = 1) : hk9 A s d t w f h kept = (h : Int) := by
  obtain ⟨g, rfl⟩ : ∃ q, f = q + 1 := ⟨f - 1, by omega⟩
  unfold hk9
  rw [if_pos e, if_pos e2]
theorem hk_3 {A : Nat → Int} {s h f : Nat} {d t w kept : Int} (hf : 0 < f) (e : cnd9 A s d t w h = true) (e2 : ¬ A (280 + 8 * h + 6) / 2 ^ s % 2 ^ 1 = 1) (e3 : A (280 + 8 * h + 6) = 0 ∧ kept < 0) : hk9 A s d t w f h kept = hk9 A s d t w (f - 1) (h + 1) h := by
  obtain ⟨g, rfl⟩ : ∃ q, f = q + 1 := ⟨f - 1, by omega⟩
  conv => lhs; unfold hk9
  rw [if_pos e, if_neg e2, if_pos e3]; rfl
theorem hk_m {A : Nat → Int} (hh : hi A) (s : Nat) (d t : Int) : ∀ (f h : Nat) (kept : Int), ((h + f : Nat) : Int) ≤ A 4 → hk9 A s d t (-1) f h kept = kept
  | 0, _, _, _ => rfl
  | f + 1, h, kept, hf => by
    have a := hh h (by omega)
    rw [hk_1 (by omega) (Or.inl (cnd_f1 (fun z => by have := z.1; omega)))]
    exact hk_m hh s d t f (h + 1) kept (by omega)
theorem hk_r (A : Nat → Int) (s : Nat) (d t w : Int) : ∀ (f h : Nat) (kept : Int), -1 ≤ kept → kept < ((h + f : Nat) : Int) → -1 ≤ hk9 A s d t w f h kept ∧ hk9 A s d t w f h kept < ((h + f : Nat) : Int)
  | 0, h, kept, h1, h2 => ⟨h1, h2⟩
  | f + 1, h, kept, h1, h2 => by
    have a := hk_r A s d t w f (h + 1) kept h1 (by omega)
    have b := hk_r A s d t w f (h + 1) (h : Int) (by omega) (by omega)
    unfold hk9
    split
    · split
      · omega
      · split <;> omega
    · omega
theorem clr_c {A : Nat → Int} {s h w : Nat} {i : Int} (hh : hi A) (hl : li A) (h2 : (h : Int) < A 4) (hw : A (280 + 8 * h + 0) = (w : Int)) : clr A s h i = decide ((0 ≤ line A s h i false ∧ line A s h i false ≤ A (14 + w) - 1) ∧ A (800 + 320 * w + 20 * (line A s h i false).toNat + 17) = 20) := by
  have hw0 : A (280 + 8 * h) = (w : Int) := hw
  have a := hh h h2
  have b := (hl w (by omega)).1
  have e : line A s h i false = lf A s h i false w (A (14 + w)).toNat 0 := by unfold line; rw [hw0, Int.toNat_natCast]
  have r := lf_rng A s h i false w (A (14 + w)).toNat 0
  rw [← e] at r
  unfold clr la
  rw [hw0, Int.toNat_natCast, ← Bool.decide_and]
  apply decide_eq_decide.mpr
  constructor
  · intro z
    have := r.2 z.1
    exact ⟨⟨z.1, by omega⟩, z.2⟩
  · intro z
    exact ⟨z.1.1, z.2⟩
theorem member_rng {A : Nat → Int} (hm : mI A) (hc : cn A) (s d : Int) : -1 ≤ member A s d ∧ member A s d ≤ 2 := by
  have k : ∀ n : Nat, (n : Int) ≤ A 3 → -1 ≤ (mb A s d n).2 ∧ (mb A s d n).2 ≤ 2 := by
    intro n
    induction n with
    | zero => intro _; simp [mb]
    | succ n ih =>
      intro h
      have a := hm n (by omega)
      have b := ih (by omega)
      unfold mb
      split
      · exact a.2.1
      · exact b
  exact k (A 3).toNat (by omega)

theorem dX8_hourAt_0 : decode cX8_hourAt 0 = .ok (.aload_n 0, 1) := by decide +kernel
theorem dX8_hourAt_1 : decode cX8_hourAt 1 = .ok (.iload_n 1, 1) := by decide +kernel
theorem dX8_hourAt_2 : decode cX8_hourAt 2 = .ok (.iload_n 2, 1) := by decide +kernel
theorem dX8_hourAt_3 : decode cX8_hourAt 3 = .ok (.bipush 48, 2) := by decide +kernel
theorem dX8_hourAt_5 : decode cX8_hourAt 5 = .ok (.idiv, 1) := by decide +kernel
theorem dX8_hourAt_6 : decode cX8_hourAt 6 = .ok (.invokevirtual 196, 3) := by decide +kernel
theorem dX8_hourAt_9 : decode cX8_hourAt 9 = .ok (.istore_n 3, 1) := by decide +kernel
theorem dX8_hourAt_10 : decode cX8_hourAt 10 = .ok (.iload_n 3, 1) := by decide +kernel
theorem dX8_hourAt_11 : decode cX8_hourAt 11 = .ok (.iconst (-1), 1) := by decide +kernel
theorem dX8_hourAt_12 : decode cX8_hourAt 12 = .ok (.if_icmp .ne 5, 3) := by decide +kernel
theorem dX8_hourAt_15 : decode cX8_hourAt 15 = .ok (.iconst (-1), 1) := by decide +kernel
theorem dX8_hourAt_16 : decode cX8_hourAt 16 = .ok (.ireturn, 1) := by decide +kernel
theorem dX8_hourAt_17 : decode cX8_hourAt 17 = .ok (.iconst (-1), 1) := by decide +kernel
theorem dX8_hourAt_18 : decode cX8_hourAt 18 = .ok (.istore 4, 2) := by decide +kernel
theorem dX8_hourAt_20 : decode cX8_hourAt 20 = .ok (.iconst 0, 1) := by decide +kernel
theorem dX8_hourAt_21 : decode cX8_hourAt 21 = .ok (.istore 5, 2) := by decide +kernel
theorem dX8_hourAt_23 : decode cX8_hourAt 23 = .ok (.iload 5, 2) := by decide +kernel
theorem dX8_hourAt_25 : decode cX8_hourAt 25 = .ok (.aload_n 0, 1) := by decide +kernel
theorem dX8_hourAt_26 : decode cX8_hourAt 26 = .ok (.getfield 31, 3) := by decide +kernel
theorem dX8_hourAt_29 : decode cX8_hourAt 29 = .ok (.invokevirtual 100, 3) := by decide +kernel
theorem dX8_hourAt_32 : decode cX8_hourAt 32 = .ok (.if_icmp .ge 129, 3) := by decide +kernel
theorem dX8_hourAt_35 : decode cX8_hourAt 35 = .ok (.aload_n 0, 1) := by decide +kernel
theorem dX8_hourAt_36 : decode cX8_hourAt 36 = .ok (.getfield 31, 3) := by decide +kernel
theorem dX8_hourAt_39 : decode cX8_hourAt 39 = .ok (.iload 5, 2) := by decide +kernel
theorem dX8_hourAt_41 : decode cX8_hourAt 41 = .ok (.invokevirtual 104, 3) := by decide +kernel
theorem dX8_hourAt_44 : decode cX8_hourAt 44 = .ok (.checkcast 118, 3) := by decide +kernel
theorem dX8_hourAt_47 : decode cX8_hourAt 47 = .ok (.astore 6, 2) := by decide +kernel
theorem dX8_hourAt_49 : decode cX8_hourAt 49 = .ok (.aload 6, 2) := by decide +kernel
theorem dX8_hourAt_51 : decode cX8_hourAt 51 = .ok (.getfield 178, 3) := by decide +kernel
theorem dX8_hourAt_54 : decode cX8_hourAt 54 = .ok (.iload_n 3, 1) := by decide +kernel
theorem dX8_hourAt_55 : decode cX8_hourAt 55 = .ok (.if_icmp .ne 100, 3) := by decide +kernel
theorem dX8_hourAt_58 : decode cX8_hourAt 58 = .ok (.aload 6, 2) := by decide +kernel
theorem dX8_hourAt_60 : decode cX8_hourAt 60 = .ok (.iload_n 2, 1) := by decide +kernel
theorem dX8_hourAt_61 : decode cX8_hourAt 61 = .ok (.invokevirtual 199, 3) := by decide +kernel
theorem dX8_hourAt_64 : decode cX8_hourAt 64 = .ok (.ifCond .eq 91, 3) := by decide +kernel
theorem dX8_hourAt_67 : decode cX8_hourAt 67 = .ok (.aload_n 0, 1) := by decide +kernel
theorem dX8_hourAt_68 : decode cX8_hourAt 68 = .ok (.aload 6, 2) := by decide +kernel
theorem dX8_hourAt_70 : decode cX8_hourAt 70 = .ok (.getfield 148, 3) := by decide +kernel
theorem dX8_hourAt_73 : decode cX8_hourAt 73 = .ok (.invokevirtual 138, 3) := by decide +kernel
theorem dX8_hourAt_76 : decode cX8_hourAt 76 = .ok (.ifCond .ne 6, 3) := by decide +kernel
theorem dX8_hourAt_79 : decode cX8_hourAt 79 = .ok (.goto 76, 3) := by decide +kernel
theorem dX8_hourAt_82 : decode cX8_hourAt 82 = .ok (.aload_n 0, 1) := by decide +kernel
theorem dX8_hourAt_83 : decode cX8_hourAt 83 = .ok (.aload 6, 2) := by decide +kernel
theorem dX8_hourAt_85 : decode cX8_hourAt 85 = .ok (.iload_n 1, 1) := by decide +kernel
theorem dX8_hourAt_86 : decode cX8_hourAt 86 = .ok (.invokevirtual 202, 3) := by decide +kernel
theorem dX8_hourAt_89 : decode cX8_hourAt 89 = .ok (.istore 7, 2) := by decide +kernel
theorem dX8_hourAt_91 : decode cX8_hourAt 91 = .ok (.aload 6, 2) := by decide +kernel
theorem dX8_hourAt_93 : decode cX8_hourAt 93 = .ok (.getfield 149, 3) := by decide +kernel
theorem dX8_hourAt_96 : decode cX8_hourAt 96 = .ok (.ifCond .ne 13, 3) := by decide +kernel
theorem dX8_hourAt_99 : decode cX8_hourAt 99 = .ok (.iload 4, 2) := by decide +kernel
theorem dX8_hourAt_101 : decode cX8_hourAt 101 = .ok (.iconst (-1), 1) := by decide +kernel
theorem dX8_hourAt_102 : decode cX8_hourAt 102 = .ok (.if_icmp .ne 7, 3) := by decide +kernel
theorem dX8_hourAt_105 : decode cX8_hourAt 105 = .ok (.iconst 1, 1) := by decide +kernel
theorem dX8_hourAt_106 : decode cX8_hourAt 106 = .ok (.goto 4, 3) := by decide +kernel
theorem dX8_hourAt_109 : decode cX8_hourAt 109 = .ok (.iconst 0, 1) := by decide +kernel
theorem dX8_hourAt_110 : decode cX8_hourAt 110 = .ok (.istore 8, 2) := by decide +kernel
theorem dX8_hourAt_112 : decode cX8_hourAt 112 = .ok (.iload 7, 2) := by decide +kernel
theorem dX8_hourAt_114 : decode cX8_hourAt 114 = .ok (.ifCond .ne 8, 3) := by decide +kernel
theorem dX8_hourAt_117 : decode cX8_hourAt 117 = .ok (.iload 8, 2) := by decide +kernel
theorem dX8_hourAt_119 : decode cX8_hourAt 119 = .ok (.ifCond .eq 36, 3) := by decide +kernel
theorem dX8_hourAt_122 : decode cX8_hourAt 122 = .ok (.aload_n 0, 1) := by decide +kernel
theorem dX8_hourAt_123 : decode cX8_hourAt 123 = .ok (.getfield 53, 3) := by decide +kernel
theorem dX8_hourAt_126 : decode cX8_hourAt 126 = .ok (.iload_n 3, 1) := by decide +kernel
theorem dX8_hourAt_127 : decode cX8_hourAt 127 = .ok (.aaload, 1) := by decide +kernel
theorem dX8_hourAt_128 : decode cX8_hourAt 128 = .ok (.aload_n 0, 1) := by decide +kernel
theorem dX8_hourAt_129 : decode cX8_hourAt 129 = .ok (.iload_n 1, 1) := by decide +kernel
theorem dX8_hourAt_130 : decode cX8_hourAt 130 = .ok (.aload 6, 2) := by decide +kernel
theorem dX8_hourAt_132 : decode cX8_hourAt 132 = .ok (.iload_n 2, 1) := by decide +kernel
theorem dX8_hourAt_133 : decode cX8_hourAt 133 = .ok (.iconst 0, 1) := by decide +kernel
theorem dX8_hourAt_134 : decode cX8_hourAt 134 = .ok (.invokevirtual 206, 3) := by decide +kernel
theorem dX8_hourAt_137 : decode cX8_hourAt 137 = .ok (.invokevirtual 210, 3) := by decide +kernel
theorem dX8_hourAt_140 : decode cX8_hourAt 140 = .ok (.ifCond .eq 15, 3) := by decide +kernel
theorem dX8_hourAt_143 : decode cX8_hourAt 143 = .ok (.iload 7, 2) := by decide +kernel
theorem dX8_hourAt_145 : decode cX8_hourAt 145 = .ok (.ifCond .eq 6, 3) := by decide +kernel
theorem dX8_hourAt_148 : decode cX8_hourAt 148 = .ok (.iload 5, 2) := by decide +kernel
theorem dX8_hourAt_150 : decode cX8_hourAt 150 = .ok (.ireturn, 1) := by decide +kernel
theorem dX8_hourAt_151 : decode cX8_hourAt 151 = .ok (.iload 5, 2) := by decide +kernel
theorem dX8_hourAt_153 : decode cX8_hourAt 153 = .ok (.istore 4, 2) := by decide +kernel
theorem dX8_hourAt_155 : decode cX8_hourAt 155 = .ok (.iinc 5 1, 3) := by decide +kernel
theorem dX8_hourAt_158 : decode cX8_hourAt 158 = .ok (.goto (-135), 3) := by decide +kernel
theorem dX8_hourAt_161 : decode cX8_hourAt 161 = .ok (.iload 4, 2) := by decide +kernel
theorem dX8_hourAt_163 : decode cX8_hourAt 163 = .ok (.ireturn, 1) := by decide +kernel
theorem ck_X8_196 : zcV RX8 RX8 yX8_networkOn cX8_networkOn 7 (some .int) 196 2 := ⟨hk_tq3 59 (by decide +kernel) (by decide +kernel), hk_tq4 123 (by decide +kernel) (by decide +kernel), hk_tq1 2 (by decide +kernel) (by decide +kernel), ⟨by decide, by decide, by decide +kernel⟩, hk_tq3 57 (by decide +kernel) (by decide +kernel), hk_tq3 58 (by decide +kernel) (by decide +kernel)⟩
theorem fl_X8_31 : Cond.fieldLink RX8 31 "HookUps$Told" (TX8 6).2.1 (TX8 6).2.2.1 ∈ hk_tb := hk_tq1 138 (by decide +kernel) (by decide +kernel)
theorem cl_X8_118 : Cond.classLink RX8 118 RX3 ∈ hk_tb := hk_tq4 124 (by decide +kernel) (by decide +kernel)
theorem ck_X8_199 : zcV RX8 RX3 yX3_isOnAt cX3_isOnAt 2 (some .boolean) 199 1 := ⟨hk_tq4 128 (by decide +kernel) (by decide +kernel), hk_tq4 125 (by decide +kernel) (by decide +kernel), hk_tq1 21 (by decide +kernel) (by decide +kernel), ⟨by decide, by decide, by decide +kernel⟩, hk_tq4 126 (by decide +kernel) (by decide +kernel), hk_tq4 127 (by decide +kernel) (by decide +kernel)⟩
theorem ck_X8_202 : zcV RX8 RX8 yX8_isSoldTo cX8_isSoldTo 3 (some .boolean) 202 2 := ⟨hk_tq4 132 (by decide +kernel) (by decide +kernel), hk_tq4 129 (by decide +kernel) (by decide +kernel), hk_tq1 2 (by decide +kernel) (by decide +kernel), ⟨by decide, by decide, by decide +kernel⟩, hk_tq4 130 (by decide +kernel) (by decide +kernel), hk_tq4 131 (by decide +kernel) (by decide +kernel)⟩
theorem ck_X8_206 : zcV RX8 RX8 yX8_lineFor cX8_lineFor 8 (some .int) 206 4 := ⟨hk_tq4 72 (by decide +kernel) (by decide +kernel), hk_tq4 133 (by decide +kernel) (by decide +kernel), hk_tq1 2 (by decide +kernel) (by decide +kernel), ⟨by decide, by decide, by decide +kernel⟩, hk_tq4 70 (by decide +kernel) (by decide +kernel), hk_tq4 71 (by decide +kernel) (by decide +kernel)⟩
theorem ck_X8_210 : zcV RX8 RX1 yX1_clearsBy cX1_clearsBy 2 (some .boolean) 210 1 := ⟨hk_tq4 96 (by decide +kernel) (by decide +kernel), hk_tq4 134 (by decide +kernel) (by decide +kernel), hk_tq1 7 (by decide +kernel) (by decide +kernel), ⟨by decide, by decide, by decide +kernel⟩, hk_tq4 94 (by decide +kernel) (by decide +kernel), hk_tq4 95 (by decide +kernel) (by decide +kernel)⟩
set_option maxRecDepth 100000 in
set_option maxHeartbeats 4000000 in
theorem k_X8_hourAt (l : Launch) {D : va_G} {ar : Nat → ClassId} {B : Nat → Prop} {b n : Nat} {w0 : zcW} (A : Nat → Int) (d t : Int) (τ : Nat → Nat → Int) (st : Nat) (q : Int) (hA : ∀ i, inI (A i)) (hR : Rel9 ar b w0 A τ) (hs : si A) (hh : hi A) (hl : li A) (hlj : lj9 A) (hc : cn A) (hm : mI A) (hb : bI A) (hq : q = 48 * d + t ∧ 0 ≤ t ∧ t ≤ 47 ∧ 0 ≤ d ∧ d ≤ 199) (h1 : (st : Int) < A 2) : zx_M l D ar B b w0 n yX8_hourAt cX8_hourAt 9 (some .int) 4 98 [.ref (b + 1), .int (iz ((st : Nat) : Int)), .int (iz q)] τ (some (.int (iz (hk9 A st d t (member A st d) (A 4).toNat 0 (-1))))) := by
  refine zc_start (own := RX8) (by decide +kernel) rfl (Nat.le_of_ble_eq_true rfl) ?_
  intro p e s m args below meth c C K hr hlk hnam
  have n7 := hR.l7.1
  refine hv_aload_n C 0 0 dX8_hourAt_0 rfl rfl ?_
  refine hv_iload_n C 1 1 dX8_hourAt_1 rfl rfl ?_
  refine hv_iload_n C 2 2 dX8_hourAt_2 rfl rfl ?_
  refine hv_bipush C dX8_hourAt_3 (by decide) ?_
  refine hv_idiv C (by omega) (by omega) (by omega) (by omega) dX8_hourAt_5 ?_
  refine zt_callV [.int (iz ((st : Nat) : Int)), .int (iz (q / 48))] [] C K (cw_at 1 rfl) rfl (k_X8_networkOn l A τ ((st : Nat) : Int) (q / 48) hA hR hm hc (by omega) (by omega)) ck_X8_196 (by decide) ⟨Nat.zero_le _, Nat.zero_le _⟩ rfl (Nat.le_of_ble_eq_true rfl) dX8_hourAt_6 ?_
  refine hv_as ((member A ((st : Nat) : Int) (q / 48))) rfl ?_
  refine hv_nm (fun x1 ex1 => ?_)
  have rx1 : inI x1 := by rw [ex1]; exact (by have z := member_rng hm hc (st : Int) (q / 48); exact ⟨by omega, by omega⟩)
  refine hv_istore_n C 3 [(3, .int (iz x1)), (0, .ref (b + 1)), (1, .int (iz ((st : Nat) : Int))), (2, .int (iz q))] dX8_hourAt_9 rfl (by decide) rfl ?_
  have zmb : member A st d = x1 := by rw [ex1, show q / 48 = d by omega]
  have zmr := member_rng hm hc (st : Int) d
  refine hv_iload_n C 3 0 dX8_hourAt_10 rfl rfl ?_
  refine hv_iconst C dX8_hourAt_11 ?_
  refine hv_icmp_ne C 17 dX8_hourAt_12 (by decide) (by omega) (by omega) (fun h12 => ?_) (fun h12 => ?_)
  · skip
    obtain ⟨wN, rfl⟩ : ∃ n9 : Nat, x1 = (n9 : Int) := ⟨(x1).toNat, by omega⟩
    refine hv_iconst C dX8_hourAt_17 ?_
    refine hv_istore C 4 [(4, .int (iz (-1))), (3, .int (iz ((wN : Nat) : Int))), (0, .ref (b + 1)), (1, .int (iz ((st : Nat) : Int))), (2, .int (iz q))] dX8_hourAt_18 (by decide) rfl ?_
    refine hv_iconst C dX8_hourAt_20 ?_
    refine hv_istore C 5 [(5, .int (iz 0)), (4, .int (iz (-1))), (3, .int (iz ((wN : Nat) : Int))), (0, .ref (b + 1)), (1, .int (iz ((st : Nat) : Int))), (2, .int (iz q))] dX8_hourAt_21 (by decide) rfl ?_
    have L23 : ∀ (f : Nat) (kept : Int) (h : Nat) (X : Nat → Int), (A 4).toNat - h < f → ((h : Int) ≤ A 4) → (-1 ≤ kept ∧ kept ≤ 23) → (hk9 A st d t (wN : Int) ((A 4).toNat - h) h kept = hk9 A st d t (wN : Int) (A 4).toNat 0 (-1)) → hvV p l e { frames := 4, cells := 0, slots := 0, locals := 98 } s m args below meth c 9 B 0 0 (MQ below (zc_Q D B (fun r' w' n' => r' = (some (.int (iz (hk9 A st d t (member A st d) (A 4).toNat 0 (-1))))) ∧ (∃ X, w' = cw ar b (sA τ 18 X) w0) ∧ n' = n)) args s 0 0 B) (zc_I D B (cw ar b (sA τ 18 X) w0) n s.heap) 23 [(0, .ref (b + 1)), (1, .int (iz ((st : Nat) : Int))), (2, .int (iz q)), (3, .int (iz ((wN : Nat) : Int))), (4, .int (iz kept)), (5, .int (iz ((h : Nat) : Int)))] [] := by
      intro f
      induction f with
      | zero => intro _ _ _ hm; exact absurd hm (Nat.not_lt_zero _)
      | succ f ih23 =>
        intro kept h X hm23 hh9 hkp hr9
        refine hv_iload C 5 5 dX8_hourAt_23 rfl ?_
        refine hv_aload_n C 0 0 dX8_hourAt_25 rfl rfl ?_
        refine zc_get C K (v := .ref (b + 7)) 6 rfl hu_9 (by decide) (cw_at 1 rfl) rfl fl_X8_31 rfl dX8_hourAt_26 ?_
        refine zt_callV [] [.int (iz ((h : Nat) : Int))] C K (cw_at 7 rfl) rfl (k_Jx4a65c_size_8abf5 l 7 (sA τ 18 X)  rfl) ck_X8_100 (by decide) ⟨Nat.zero_le _, Nat.zero_le _⟩ rfl (Nat.le_of_ble_eq_true rfl) dX8_hourAt_29 ?_
        refine hv_as ((τ 7 2)) rfl ?_
        refine hv_nm (fun x2 ex2 => ?_)
        have rx2 : inI x2 := by rw [ex2]; exact (by have z := hA 4; omega)
        refine hv_icmp_ge C 161 dX8_hourAt_32 (by decide) (by omega) (by omega) (fun h32 => ?_) (fun h32 => ?_)
        · skip
          have zv : hk9 A st d t (member A st d) (A 4).toNat 0 (-1) = kept := by rw [zmb, ← hr9, show (A 4).toNat - h = 0 by omega]; rfl
          refine hv_iload C 4 4 dX8_hourAt_161 rfl ?_
          exact zx_iret C hr hlk (by first | exact zv.symm | omega) ⟨X, rfl⟩ dX8_hourAt_163
        · skip
          refine hv_aload_n C 0 0 dX8_hourAt_35 rfl rfl ?_
          refine zc_get C K (v := .ref (b + 7)) 6 rfl hu_9 (by decide) (cw_at 1 rfl) rfl fl_X8_31 rfl dX8_hourAt_36 ?_
          refine hv_iload C 5 5 dX8_hourAt_39 rfl ?_
          obtain ⟨p3, i3, o3⟩ := ((by repeat (first | exact hR | refine rl_sA (by decide) ?_)) : Rel9 ar b w0 A (sA τ 18 X)).l7.2 h (by omega)
          refine zt_callV [.int (iz ((h : Nat) : Int))] [] C K (cw_at 7 rfl) rfl (k_Jx4a65c_get_915e3 l 7 p3 (sA τ 18 X) h rfl i3) ck_X8_104 (by decide) ⟨Nat.zero_le _, Nat.zero_le _⟩ rfl (Nat.le_of_ble_eq_true rfl) dX8_hourAt_41 ?_
          refine zc_cast C K (cw_ob o3) (hc := rfl) cl_X8_118 dX8_hourAt_44 ?_
          refine hv_astore C 6 [(6, .ref p3), (0, .ref (b + 1)), (1, .int (iz ((st : Nat) : Int))), (2, .int (iz q)), (3, .int (iz ((wN : Nat) : Int))), (4, .int (iz kept)), (5, .int (iz ((h : Nat) : Int)))] dX8_hourAt_47 (by decide) rfl ?_
          have hhk := hh h (by omega)
          refine hv_aload C 6 0 dX8_hourAt_49 rfl ?_
          refine zc_get C K (v := .int (iz (A (280 + 8 * h + 0)))) 0 rfl hu_4 (by decide) (cw_ob o3) rfl fl_X8_178 rfl dX8_hourAt_51 ?_
          refine hv_nm (fun x4 ex4 => ?_)
          have rx4 : inI x4 := by rw [ex4]; exact (hA _)
          refine hv_iload_n C 3 4 dX8_hourAt_54 rfl rfl ?_
          refine hv_icmp_ne C 155 dX8_hourAt_55 (by decide) (by omega) (by omega) (fun h55 => ?_) (fun h55 => ?_)
          · skip
            refine hv_iinc C 5 6 [(5, .int (iz (((h : Nat) : Int) + 1))), (6, .ref p3), (0, .ref (b + 1)), (1, .int (iz ((st : Nat) : Int))), (2, .int (iz q)), (3, .int (iz ((wN : Nat) : Int))), (4, .int (iz kept))] dX8_hourAt_155 rfl (by decide) rfl ?_
            refine hv_goto C 23 dX8_hourAt_158 (by decide) ?_
            refine hv_loc [2, 3, 4, 5, 6, 0] [(0, .ref (b + 1)), (1, .int (iz ((st : Nat) : Int))), (2, .int (iz q)), (3, .int (iz ((wN : Nat) : Int))), (4, .int (iz kept)), (5, .int (iz (((h : Nat) : Int) + 1)))] rfl ?_
            exact ih23 kept (h + 1) X (by omega) (by omega) (by omega) (by first | (rw [← hr9, hk_3 (A := A) (s := st) (h := h) (f := (A 4).toNat - h) (d := d) (t := t) (w := (wN : Int)) (kept := kept) (by omega) (cnd_t (by omega) (by omega) (by rw [zcl]; exact decide_eq_true h140)) (by omega) (by omega)]; rfl) | (rw [← hr9, hk_1 (A := A) (s := st) (h := h) (f := (A 4).toNat - h) (d := d) (t := t) (w := (wN : Int)) (kept := kept) (by omega) (by first | exact Or.inl (cnd_f1 (by omega)) | exact Or.inl (cnd_f2 (by rw [zcl]; exact decide_eq_false h140)) | exact Or.inr ⟨by omega, by omega⟩)]; rfl))
          · skip
            refine hv_aload C 6 0 dX8_hourAt_58 rfl ?_
            refine hv_iload_n C 2 3 dX8_hourAt_60 rfl rfl ?_
            refine zt_callV [.int (iz q)] [] C K (cw_ob o3) rfl (k_X3_isOnAt l A h p3 (sA τ 18 X) q hA o3 hh (by omega) (by omega)) ck_X8_199 (by decide) ⟨Nat.zero_le _, Nat.zero_le _⟩ rfl (Nat.le_of_ble_eq_true rfl) dX8_hourAt_61 ?_
            refine hv_as (xb (decide (48 * A (280 + 8 * h + 1) + A (280 + 8 * h + 2) ≤ q ∧ q < 48 * A (280 + 8 * h + 1) + A (280 + 8 * h + 2) + A (280 + 8 * h + 3)))) rfl ?_
            refine hv_dif_eq C 155 dX8_hourAt_64 (by decide)  (fun h64 => ?_) (fun h64 => ?_)
            · skip
              refine hv_iinc C 5 6 [(5, .int (iz (((h : Nat) : Int) + 1))), (6, .ref p3), (0, .ref (b + 1)), (1, .int (iz ((st : Nat) : Int))), (2, .int (iz q)), (3, .int (iz ((wN : Nat) : Int))), (4, .int (iz kept))] dX8_hourAt_155 rfl (by decide) rfl ?_
              refine hv_goto C 23 dX8_hourAt_158 (by decide) ?_
              refine hv_loc [2, 3, 4, 5, 6, 0] [(0, .ref (b + 1)), (1, .int (iz ((st : Nat) : Int))), (2, .int (iz q)), (3, .int (iz ((wN : Nat) : Int))), (4, .int (iz kept)), (5, .int (iz (((h : Nat) : Int) + 1)))] rfl ?_
              exact ih23 kept (h + 1) X (by omega) (by omega) (by omega) (by first | (rw [← hr9, hk_3 (A := A) (s := st) (h := h) (f := (A 4).toNat - h) (d := d) (t := t) (w := (wN : Int)) (kept := kept) (by omega) (cnd_t (by omega) (by omega) (by rw [zcl]; exact decide_eq_true h140)) (by omega) (by omega)]; rfl) | (rw [← hr9, hk_1 (A := A) (s := st) (h := h) (f := (A 4).toNat - h) (d := d) (t := t) (w := (wN : Int)) (kept := kept) (by omega) (by first | exact Or.inl (cnd_f1 (by omega)) | exact Or.inl (cnd_f2 (by rw [zcl]; exact decide_eq_false h140)) | exact Or.inr ⟨by omega, by omega⟩)]; rfl))
            · skip
              refine hv_aload_n C 0 1 dX8_hourAt_67 rfl rfl ?_
              refine hv_aload C 6 0 dX8_hourAt_68 rfl ?_
              refine zc_get C K (v := .int (iz (A (280 + 8 * h + 7)))) 6 rfl hu_4 (by decide) (cw_ob o3) rfl fl_X8_148 rfl dX8_hourAt_70 ?_
              refine hv_nm (fun x5 ex5 => ?_)
              have rx5 : inI x5 := by rw [ex5]; exact (hA _)
              refine zt_callV [.int (iz x5)] [] C K (cw_at 1 rfl) rfl (k_X8_isSeen l A (sA τ 18 X) x5 hA (by repeat (first | exact hR | refine rl_sA (by decide) ?_)) (by omega)) ck_X8_138 (by decide) ⟨Nat.zero_le _, Nat.zero_le _⟩ rfl (Nat.le_of_ble_eq_true rfl) dX8_hourAt_73 ?_
              refine hv_as (xb (decide (A 9 = -1 ∨ x5 ≤ A 9))) rfl ?_
              refine hv_dif_ne C 82 dX8_hourAt_76 (by decide)  (fun h76 => ?_) (fun h76 => ?_)
              · skip
                refine hv_aload_n C 0 1 dX8_hourAt_82 rfl rfl ?_
                refine hv_aload C 6 0 dX8_hourAt_83 rfl ?_
                refine hv_iload_n C 1 2 dX8_hourAt_85 rfl rfl ?_
                refine zt_callV [.ref p3, .int (iz ((st : Nat) : Int))] [] C K (cw_at 1 rfl) rfl (k_X8_isSoldTo l A h p3 (sA τ 18 X) st hA (by repeat (first | exact hR | refine rl_sA (by decide) ?_)) o3 (by omega)) ck_X8_202 (by decide) ⟨Nat.zero_le _, Nat.zero_le _⟩ rfl (Nat.le_of_ble_eq_true rfl) dX8_hourAt_86 ?_
                refine hv_as (xb (decide ((A 9 = -1 ∨ A (280 + 8 * h + 7) ≤ A 9) ∧ A (280 + 8 * h + 6) / 2 ^ st % 2 ^ 1 = 1))) rfl ?_
                refine hv_istore C 7 [(7, .int (iz (xb (decide ((A 9 = -1 ∨ A (280 + 8 * h + 7) ≤ A 9) ∧ A (280 + 8 * h + 6) / 2 ^ st % 2 ^ 1 = 1))))), (6, .ref p3), (0, .ref (b + 1)), (1, .int (iz ((st : Nat) : Int))), (2, .int (iz q)), (3, .int (iz ((wN : Nat) : Int))), (4, .int (iz kept)), (5, .int (iz ((h : Nat) : Int)))] dX8_hourAt_89 (by decide) rfl ?_
                refine hv_aload C 6 1 dX8_hourAt_91 rfl ?_
                refine zc_get C K (v := .int (iz (A (280 + 8 * h + 6)))) 5 rfl hu_4 (by decide) (cw_ob o3) rfl fl_X8_149 rfl dX8_hourAt_93 ?_
                refine hv_nm (fun x6 ex6 => ?_)
                have rx6 : inI x6 := by rw [ex6]; exact (hA _)
                refine hv_if_ne C 109 dX8_hourAt_96 (by decide) (by omega) (fun h96 => ?_) (fun h96 => ?_)
                · skip
                  refine hv_iconst C dX8_hourAt_109 ?_
                  refine hv_istore C 8 [(8, .int (iz 0)), (7, .int (iz (xb (decide ((A 9 = -1 ∨ A (280 + 8 * h + 7) ≤ A 9) ∧ A (280 + 8 * h + 6) / 2 ^ st % 2 ^ 1 = 1))))), (6, .ref p3), (0, .ref (b + 1)), (1, .int (iz ((st : Nat) : Int))), (2, .int (iz q)), (3, .int (iz ((wN : Nat) : Int))), (4, .int (iz kept)), (5, .int (iz ((h : Nat) : Int)))] dX8_hourAt_110 (by decide) rfl ?_
                  refine hv_iload C 7 1 dX8_hourAt_112 rfl ?_
                  refine hv_dif_ne C 122 dX8_hourAt_114 (by decide)  (fun h114 => ?_) (fun h114 => ?_)
                  · skip
                    refine hv_aload_n C 0 3 dX8_hourAt_122 rfl rfl ?_
                    refine zc_get C K (v := .ref (b + 10)) 15 rfl hu_9 (by decide) (cw_at 1 rfl) rfl fl_X8_53 rfl dX8_hourAt_123 ?_
                    refine hv_iload_n C 3 6 dX8_hourAt_126 rfl rfl ?_
                    refine zc_aald C K (f := (fun q => rfv ((τ 10) q))) 3 wN (cw_at 10 rfl) rfl (by omega) (by omega) (by decide) dX8_hourAt_127 ?_
                    obtain ⟨p8, e8, hC8⟩ := hR.con wN (by omega)
                    obtain ⟨d8, c8, t8, _, _, _, hO8, _⟩ := id hC8
                    refine hv_asv (.ref p8) (by show va_rf (rfv (τ 10 wN)) = _; rw [e8, rfv_n]; rfl) ?_
                    refine hv_aload_n C 0 3 dX8_hourAt_128 rfl rfl ?_
                    refine hv_iload_n C 1 4 dX8_hourAt_129 rfl rfl ?_
                    refine hv_aload C 6 2 dX8_hourAt_130 rfl ?_
                    refine hv_iload_n C 2 5 dX8_hourAt_132 rfl rfl ?_
                    refine hv_iconst C dX8_hourAt_133 ?_
                    refine zx_callV [.int (iz ((st : Nat) : Int)), .ref p3, .int (iz q), .int (iz 0)] [.ref p8] C K (cw_at 1 rfl) rfl (k_X8_lineFor l A h p3 (t - A (280 + 8 * h + 2)) (sA τ 18 X) st q false hA (by repeat (first | exact hR | refine rl_sA (by decide) ?_)) o3 hs hh hl hlj hc h1 (by omega) (by omega)) ck_X8_206 (by decide) ⟨Nat.zero_le _, Nat.zero_le _⟩ rfl (Nat.le_of_ble_eq_true rfl) dX8_hourAt_134 (fun X7 => ?_)
                    refine hv_as ((line A st h (t - A (280 + 8 * h + 2)) false)) rfl ?_
                    refine zt_st (τ2 := sA τ 18 X7) (by rw [sA_sA]) ?_
                    refine hv_nm (fun x8 ex8 => ?_)
                    have rx8 : inI x8 := by rw [ex8]; exact (by have z := line_rng st (h := h) (t - A (280 + 8 * h + 2)) false hh hl (by omega); exact ⟨by omega, by omega⟩)
                    have zcl : clr A st h (t - A (280 + 8 * h + 2)) = decide ((0 ≤ x8 ∧ x8 ≤ A (14 + wN) - 1) ∧ A (800 + 320 * wN + 20 * (x8).toNat + 17) = 20) := by rw [ex8]; exact clr_c hh hl (by omega) (by omega)
                    refine zt_callV [.int (iz x8)] [] C K (cw_ob hO8) rfl (k_X1_clearsBy l A wN p8 (sA τ 18 X7) x8 hA hC8 hl hlj (by omega) (by omega)) ck_X8_210 (by decide) ⟨Nat.zero_le _, Nat.zero_le _⟩ rfl (Nat.le_of_ble_eq_true rfl) dX8_hourAt_137 ?_
                    refine hv_as (xb (decide ((0 ≤ x8 ∧ x8 ≤ A (14 + wN) - 1) ∧ A ((800 + 320 * wN + 20 * x8.toNat) + 17) = 20))) rfl ?_
                    refine hv_dif_eq C 155 dX8_hourAt_140 (by decide)  (fun h140 => ?_) (fun h140 => ?_)
                    · skip
                      refine hv_iinc C 5 8 [(5, .int (iz (((h : Nat) : Int) + 1))), (8, .int (iz 0)), (7, .int (iz (xb (decide ((A 9 = -1 ∨ A (280 + 8 * h + 7) ≤ A 9) ∧ A (280 + 8 * h + 6) / 2 ^ st % 2 ^ 1 = 1))))), (6, .ref p3), (0, .ref (b + 1)), (1, .int (iz ((st : Nat) : Int))), (2, .int (iz q)), (3, .int (iz ((wN : Nat) : Int))), (4, .int (iz kept))] dX8_hourAt_155 rfl (by decide) rfl ?_
                      refine hv_goto C 23 dX8_hourAt_158 (by decide) ?_
                      refine hv_loc [4, 5, 6, 7, 8, 0] [(0, .ref (b + 1)), (1, .int (iz ((st : Nat) : Int))), (2, .int (iz q)), (3, .int (iz ((wN : Nat) : Int))), (4, .int (iz kept)), (5, .int (iz (((h : Nat) : Int) + 1)))] rfl ?_
                      exact ih23 kept (h + 1) X7 (by omega) (by omega) (by omega) (by first | (rw [← hr9, hk_3 (A := A) (s := st) (h := h) (f := (A 4).toNat - h) (d := d) (t := t) (w := (wN : Int)) (kept := kept) (by omega) (cnd_t (by omega) (by omega) (by rw [zcl]; exact decide_eq_true h140)) (by omega) (by omega)]; rfl) | (rw [← hr9, hk_1 (A := A) (s := st) (h := h) (f := (A 4).toNat - h) (d := d) (t := t) (w := (wN : Int)) (kept := kept) (by omega) (by first | exact Or.inl (cnd_f1 (by omega)) | exact Or.inl (cnd_f2 (by rw [zcl]; exact decide_eq_false h140)) | exact Or.inr ⟨by omega, by omega⟩)]; rfl))
                    · skip
                      refine hv_iload C 7 1 dX8_hourAt_143 rfl ?_
                      refine hv_dif_eq C 151 dX8_hourAt_145 (by decide)  (fun h145 => ?_) (fun h145 => ?_)
                      · skip
                        refine hv_iload C 5 8 dX8_hourAt_151 rfl ?_
                        refine hv_istore C 4 [(4, .int (iz ((h : Nat) : Int))), (8, .int (iz 0)), (7, .int (iz (xb (decide ((A 9 = -1 ∨ A (280 + 8 * h + 7) ≤ A 9) ∧ A (280 + 8 * h + 6) / 2 ^ st % 2 ^ 1 = 1))))), (6, .ref p3), (0, .ref (b + 1)), (1, .int (iz ((st : Nat) : Int))), (2, .int (iz q)), (3, .int (iz ((wN : Nat) : Int))), (5, .int (iz ((h : Nat) : Int)))] dX8_hourAt_153 (by decide) rfl ?_
                        refine hv_iinc C 5 8 [(5, .int (iz (((h : Nat) : Int) + 1))), (4, .int (iz ((h : Nat) : Int))), (8, .int (iz 0)), (7, .int (iz (xb (decide ((A 9 = -1 ∨ A (280 + 8 * h + 7) ≤ A 9) ∧ A (280 + 8 * h + 6) / 2 ^ st % 2 ^ 1 = 1))))), (6, .ref p3), (0, .ref (b + 1)), (1, .int (iz ((st : Nat) : Int))), (2, .int (iz q)), (3, .int (iz ((wN : Nat) : Int)))] dX8_hourAt_155 rfl (by decide) rfl ?_
                        refine hv_goto C 23 dX8_hourAt_158 (by decide) ?_
                        refine hv_loc [5, 6, 7, 8, 1, 0] [(0, .ref (b + 1)), (1, .int (iz ((st : Nat) : Int))), (2, .int (iz q)), (3, .int (iz ((wN : Nat) : Int))), (4, .int (iz ((h : Nat) : Int))), (5, .int (iz (((h : Nat) : Int) + 1)))] rfl ?_
                        exact ih23 ((h : Nat) : Int) (h + 1) X7 (by omega) (by omega) (by omega) (by first | (rw [← hr9, hk_3 (A := A) (s := st) (h := h) (f := (A 4).toNat - h) (d := d) (t := t) (w := (wN : Int)) (kept := kept) (by omega) (cnd_t (by omega) (by omega) (by rw [zcl]; exact decide_eq_true h140)) (by omega) (by omega)]; rfl) | (rw [← hr9, hk_1 (A := A) (s := st) (h := h) (f := (A 4).toNat - h) (d := d) (t := t) (w := (wN : Int)) (kept := kept) (by omega) (by first | exact Or.inl (cnd_f1 (by omega)) | exact Or.inl (cnd_f2 (by rw [zcl]; exact decide_eq_false h140)) | exact Or.inr ⟨by omega, by omega⟩)]; rfl))
                      · skip
                        have zv : hk9 A st d t (member A st d) (A 4).toNat 0 (-1) = (h : Int) := by rw [zmb, ← hr9]; exact hk_2 (by omega) (cnd_t (by omega) (by omega) (by rw [zcl]; exact decide_eq_true h140)) (by omega)
                        refine hv_iload C 5 8 dX8_hourAt_148 rfl ?_
                        exact zx_iret C hr hlk (by first | exact zv.symm | omega) ⟨X7, rfl⟩ dX8_hourAt_150
                  · skip
                    refine hv_iload C 8 0 dX8_hourAt_117 rfl ?_
                    refine hv_if_eq C 155 dX8_hourAt_119 (by decide) (by decide) (fun _ => ?_) (fun h => absurd h (by decide))
                    refine hv_iinc C 5 8 [(5, .int (iz (((h : Nat) : Int) + 1))), (8, .int (iz 0)), (7, .int (iz (xb (decide ((A 9 = -1 ∨ A (280 + 8 * h + 7) ≤ A 9) ∧ A (280 + 8 * h + 6) / 2 ^ st % 2 ^ 1 = 1))))), (6, .ref p3), (0, .ref (b + 1)), (1, .int (iz ((st : Nat) : Int))), (2, .int (iz q)), (3, .int (iz ((wN : Nat) : Int))), (4, .int (iz kept))] dX8_hourAt_155 rfl (by decide) rfl ?_
                    refine hv_goto C 23 dX8_hourAt_158 (by decide) ?_
                    refine hv_loc [4, 5, 6, 7, 8, 0] [(0, .ref (b + 1)), (1, .int (iz ((st : Nat) : Int))), (2, .int (iz q)), (3, .int (iz ((wN : Nat) : Int))), (4, .int (iz kept)), (5, .int (iz (((h : Nat) : Int) + 1)))] rfl ?_
                    exact ih23 kept (h + 1) X (by omega) (by omega) (by omega) (by first | (rw [← hr9, hk_3 (A := A) (s := st) (h := h) (f := (A 4).toNat - h) (d := d) (t := t) (w := (wN : Int)) (kept := kept) (by omega) (cnd_t (by omega) (by omega) (by rw [zcl]; exact decide_eq_true h140)) (by omega) (by omega)]; rfl) | (rw [← hr9, hk_1 (A := A) (s := st) (h := h) (f := (A 4).toNat - h) (d := d) (t := t) (w := (wN : Int)) (kept := kept) (by omega) (by first | exact Or.inl (cnd_f1 (by omega)) | exact Or.inl (cnd_f2 (by rw [zcl]; exact decide_eq_false h140)) | exact Or.inr ⟨by omega, by omega⟩)]; rfl))
                · skip
                  refine hv_iload C 4 6 dX8_hourAt_99 rfl ?_
                  refine hv_iconst C dX8_hourAt_101 ?_
                  refine hv_icmp_ne C 109 dX8_hourAt_102 (by decide) (by omega) (by omega) (fun h102 => ?_) (fun h102 => ?_)
                  · skip
                    refine hv_iconst C dX8_hourAt_109 ?_
                    refine hv_istore C 8 [(8, .int (iz 0)), (7, .int (iz (xb (decide ((A 9 = -1 ∨ A (280 + 8 * h + 7) ≤ A 9) ∧ A (280 + 8 * h + 6) / 2 ^ st % 2 ^ 1 = 1))))), (6, .ref p3), (0, .ref (b + 1)), (1, .int (iz ((st : Nat) : Int))), (2, .int (iz q)), (3, .int (iz ((wN : Nat) : Int))), (4, .int (iz kept)), (5, .int (iz ((h : Nat) : Int)))] dX8_hourAt_110 (by decide) rfl ?_
                    refine hv_iload C 7 1 dX8_hourAt_112 rfl ?_
                    refine hv_dif_ne C 122 dX8_hourAt_114 (by decide)  (fun h114 => ?_) (fun h114 => ?_)
                    · skip
                      refine hv_aload_n C 0 3 dX8_hourAt_122 rfl rfl ?_
                      refine zc_get C K (v := .ref (b + 10)) 15 rfl hu_9 (by decide) (cw_at 1 rfl) rfl fl_X8_53 rfl dX8_hourAt_123 ?_
                      refine hv_iload_n C 3 6 dX8_hourAt_126 rfl rfl ?_
                      refine zc_aald C K (f := (fun q => rfv ((τ 10) q))) 3 wN (cw_at 10 rfl) rfl (by omega) (by omega) (by decide) dX8_hourAt_127 ?_
                      obtain ⟨p8, e8, hC8⟩ := hR.con wN (by omega)
                      obtain ⟨d8, c8, t8, _, _, _, hO8, _⟩ := id hC8
                      refine hv_asv (.ref p8) (by show va_rf (rfv (τ 10 wN)) = _; rw [e8, rfv_n]; rfl) ?_
                      refine hv_aload_n C 0 3 dX8_hourAt_128 rfl rfl ?_
                      refine hv_iload_n C 1 4 dX8_hourAt_129 rfl rfl ?_
                      refine hv_aload C 6 2 dX8_hourAt_130 rfl ?_
                      refine hv_iload_n C 2 5 dX8_hourAt_132 rfl rfl ?_
                      refine hv_iconst C dX8_hourAt_133 ?_
                      refine zx_callV [.int (iz ((st : Nat) : Int)), .ref p3, .int (iz q), .int (iz 0)] [.ref p8] C K (cw_at 1 rfl) rfl (k_X8_lineFor l A h p3 (t - A (280 + 8 * h + 2)) (sA τ 18 X) st q false hA (by repeat (first | exact hR | refine rl_sA (by decide) ?_)) o3 hs hh hl hlj hc h1 (by omega) (by omega)) ck_X8_206 (by decide) ⟨Nat.zero_le _, Nat.zero_le _⟩ rfl (Nat.le_of_ble_eq_true rfl) dX8_hourAt_134 (fun X9 => ?_)
                      refine hv_as ((line A st h (t - A (280 + 8 * h + 2)) false)) rfl ?_
                      refine zt_st (τ2 := sA τ 18 X9) (by rw [sA_sA]) ?_
                      refine hv_nm (fun x10 ex10 => ?_)
                      have rx10 : inI x10 := by rw [ex10]; exact (by have z := line_rng st (h := h) (t - A (280 + 8 * h + 2)) false hh hl (by omega); exact ⟨by omega, by omega⟩)
                      have zcl : clr A st h (t - A (280 + 8 * h + 2)) = decide ((0 ≤ x10 ∧ x10 ≤ A (14 + wN) - 1) ∧ A (800 + 320 * wN + 20 * (x10).toNat + 17) = 20) := by rw [ex10]; exact clr_c hh hl (by omega) (by omega)
                      refine zt_callV [.int (iz x10)] [] C K (cw_ob hO8) rfl (k_X1_clearsBy l A wN p8 (sA τ 18 X9) x10 hA hC8 hl hlj (by omega) (by omega)) ck_X8_210 (by decide) ⟨Nat.zero_le _, Nat.zero_le _⟩ rfl (Nat.le_of_ble_eq_true rfl) dX8_hourAt_137 ?_
                      refine hv_as (xb (decide ((0 ≤ x10 ∧ x10 ≤ A (14 + wN) - 1) ∧ A ((800 + 320 * wN + 20 * x10.toNat) + 17) = 20))) rfl ?_
                      refine hv_dif_eq C 155 dX8_hourAt_140 (by decide)  (fun h140 => ?_) (fun h140 => ?_)
                      · skip
                        refine hv_iinc C 5 8 [(5, .int (iz (((h : Nat) : Int) + 1))), (8, .int (iz 0)), (7, .int (iz (xb (decide ((A 9 = -1 ∨ A (280 + 8 * h + 7) ≤ A 9) ∧ A (280 + 8 * h + 6) / 2 ^ st % 2 ^ 1 = 1))))), (6, .ref p3), (0, .ref (b + 1)), (1, .int (iz ((st : Nat) : Int))), (2, .int (iz q)), (3, .int (iz ((wN : Nat) : Int))), (4, .int (iz kept))] dX8_hourAt_155 rfl (by decide) rfl ?_
                        refine hv_goto C 23 dX8_hourAt_158 (by decide) ?_
                        refine hv_loc [4, 5, 6, 7, 8, 0] [(0, .ref (b + 1)), (1, .int (iz ((st : Nat) : Int))), (2, .int (iz q)), (3, .int (iz ((wN : Nat) : Int))), (4, .int (iz kept)), (5, .int (iz (((h : Nat) : Int) + 1)))] rfl ?_
                        exact ih23 kept (h + 1) X9 (by omega) (by omega) (by omega) (by first | (rw [← hr9, hk_3 (A := A) (s := st) (h := h) (f := (A 4).toNat - h) (d := d) (t := t) (w := (wN : Int)) (kept := kept) (by omega) (cnd_t (by omega) (by omega) (by rw [zcl]; exact decide_eq_true h140)) (by omega) (by omega)]; rfl) | (rw [← hr9, hk_1 (A := A) (s := st) (h := h) (f := (A 4).toNat - h) (d := d) (t := t) (w := (wN : Int)) (kept := kept) (by omega) (by first | exact Or.inl (cnd_f1 (by omega)) | exact Or.inl (cnd_f2 (by rw [zcl]; exact decide_eq_false h140)) | exact Or.inr ⟨by omega, by omega⟩)]; rfl))
                      · skip
                        refine hv_iload C 7 1 dX8_hourAt_143 rfl ?_
                        refine hv_dif_eq C 151 dX8_hourAt_145 (by decide)  (fun h145 => ?_) (fun h145 => ?_)
                        · skip
                          refine hv_iload C 5 8 dX8_hourAt_151 rfl ?_
                          refine hv_istore C 4 [(4, .int (iz ((h : Nat) : Int))), (8, .int (iz 0)), (7, .int (iz (xb (decide ((A 9 = -1 ∨ A (280 + 8 * h + 7) ≤ A 9) ∧ A (280 + 8 * h + 6) / 2 ^ st % 2 ^ 1 = 1))))), (6, .ref p3), (0, .ref (b + 1)), (1, .int (iz ((st : Nat) : Int))), (2, .int (iz q)), (3, .int (iz ((wN : Nat) : Int))), (5, .int (iz ((h : Nat) : Int)))] dX8_hourAt_153 (by decide) rfl ?_
                          refine hv_iinc C 5 8 [(5, .int (iz (((h : Nat) : Int) + 1))), (4, .int (iz ((h : Nat) : Int))), (8, .int (iz 0)), (7, .int (iz (xb (decide ((A 9 = -1 ∨ A (280 + 8 * h + 7) ≤ A 9) ∧ A (280 + 8 * h + 6) / 2 ^ st % 2 ^ 1 = 1))))), (6, .ref p3), (0, .ref (b + 1)), (1, .int (iz ((st : Nat) : Int))), (2, .int (iz q)), (3, .int (iz ((wN : Nat) : Int)))] dX8_hourAt_155 rfl (by decide) rfl ?_
                          refine hv_goto C 23 dX8_hourAt_158 (by decide) ?_
                          refine hv_loc [5, 6, 7, 8, 1, 0] [(0, .ref (b + 1)), (1, .int (iz ((st : Nat) : Int))), (2, .int (iz q)), (3, .int (iz ((wN : Nat) : Int))), (4, .int (iz ((h : Nat) : Int))), (5, .int (iz (((h : Nat) : Int) + 1)))] rfl ?_
                          exact ih23 ((h : Nat) : Int) (h + 1) X9 (by omega) (by omega) (by omega) (by first | (rw [← hr9, hk_3 (A := A) (s := st) (h := h) (f := (A 4).toNat - h) (d := d) (t := t) (w := (wN : Int)) (kept := kept) (by omega) (cnd_t (by omega) (by omega) (by rw [zcl]; exact decide_eq_true h140)) (by omega) (by omega)]; rfl) | (rw [← hr9, hk_1 (A := A) (s := st) (h := h) (f := (A 4).toNat - h) (d := d) (t := t) (w := (wN : Int)) (kept := kept) (by omega) (by first | exact Or.inl (cnd_f1 (by omega)) | exact Or.inl (cnd_f2 (by rw [zcl]; exact decide_eq_false h140)) | exact Or.inr ⟨by omega, by omega⟩)]; rfl))
                        · skip
                          have zv : hk9 A st d t (member A st d) (A 4).toNat 0 (-1) = (h : Int) := by rw [zmb, ← hr9]; exact hk_2 (by omega) (cnd_t (by omega) (by omega) (by rw [zcl]; exact decide_eq_true h140)) (by omega)
                          refine hv_iload C 5 8 dX8_hourAt_148 rfl ?_
                          exact zx_iret C hr hlk (by first | exact zv.symm | omega) ⟨X9, rfl⟩ dX8_hourAt_150
                    · skip
                      refine hv_iload C 8 0 dX8_hourAt_117 rfl ?_
                      refine hv_if_eq C 155 dX8_hourAt_119 (by decide) (by decide) (fun _ => ?_) (fun h => absurd h (by decide))
                      refine hv_iinc C 5 8 [(5, .int (iz (((h : Nat) : Int) + 1))), (8, .int (iz 0)), (7, .int (iz (xb (decide ((A 9 = -1 ∨ A (280 + 8 * h + 7) ≤ A 9) ∧ A (280 + 8 * h + 6) / 2 ^ st % 2 ^ 1 = 1))))), (6, .ref p3), (0, .ref (b + 1)), (1, .int (iz ((st : Nat) : Int))), (2, .int (iz q)), (3, .int (iz ((wN : Nat) : Int))), (4, .int (iz kept))] dX8_hourAt_155 rfl (by decide) rfl ?_
                      refine hv_goto C 23 dX8_hourAt_158 (by decide) ?_
                      refine hv_loc [4, 5, 6, 7, 8, 0] [(0, .ref (b + 1)), (1, .int (iz ((st : Nat) : Int))), (2, .int (iz q)), (3, .int (iz ((wN : Nat) : Int))), (4, .int (iz kept)), (5, .int (iz (((h : Nat) : Int) + 1)))] rfl ?_
                      exact ih23 kept (h + 1) X (by omega) (by omega) (by omega) (by first | (rw [← hr9, hk_3 (A := A) (s := st) (h := h) (f := (A 4).toNat - h) (d := d) (t := t) (w := (wN : Int)) (kept := kept) (by omega) (cnd_t (by omega) (by omega) (by rw [zcl]; exact decide_eq_true h140)) (by omega) (by omega)]; rfl) | (rw [← hr9, hk_1 (A := A) (s := st) (h := h) (f := (A 4).toNat - h) (d := d) (t := t) (w := (wN : Int)) (kept := kept) (by omega) (by first | exact Or.inl (cnd_f1 (by omega)) | exact Or.inl (cnd_f2 (by rw [zcl]; exact decide_eq_false h140)) | exact Or.inr ⟨by omega, by omega⟩)]; rfl))
                  · skip
                    refine hv_iconst C dX8_hourAt_105 ?_
                    refine hv_goto C 110 dX8_hourAt_106 (by decide) ?_
                    refine hv_istore C 8 [(8, .int (iz 1)), (7, .int (iz (xb (decide ((A 9 = -1 ∨ A (280 + 8 * h + 7) ≤ A 9) ∧ A (280 + 8 * h + 6) / 2 ^ st % 2 ^ 1 = 1))))), (6, .ref p3), (0, .ref (b + 1)), (1, .int (iz ((st : Nat) : Int))), (2, .int (iz q)), (3, .int (iz ((wN : Nat) : Int))), (4, .int (iz kept)), (5, .int (iz ((h : Nat) : Int)))] dX8_hourAt_110 (by decide) rfl ?_
                    refine hv_iload C 7 1 dX8_hourAt_112 rfl ?_
                    refine hv_dif_ne C 122 dX8_hourAt_114 (by decide)  (fun h114 => ?_) (fun h114 => ?_)
                    · skip
                      refine hv_aload_n C 0 3 dX8_hourAt_122 rfl rfl ?_
                      refine zc_get C K (v := .ref (b + 10)) 15 rfl hu_9 (by decide) (cw_at 1 rfl) rfl fl_X8_53 rfl dX8_hourAt_123 ?_
                      refine hv_iload_n C 3 6 dX8_hourAt_126 rfl rfl ?_
                      refine zc_aald C K (f := (fun q => rfv ((τ 10) q))) 3 wN (cw_at 10 rfl) rfl (by omega) (by omega) (by decide) dX8_hourAt_127 ?_
                      obtain ⟨p8, e8, hC8⟩ := hR.con wN (by omega)
                      obtain ⟨d8, c8, t8, _, _, _, hO8, _⟩ := id hC8
                      refine hv_asv (.ref p8) (by show va_rf (rfv (τ 10 wN)) = _; rw [e8, rfv_n]; rfl) ?_
                      refine hv_aload_n C 0 3 dX8_hourAt_128 rfl rfl ?_
                      refine hv_iload_n C 1 4 dX8_hourAt_129 rfl rfl ?_
                      refine hv_aload C 6 2 dX8_hourAt_130 rfl ?_
                      refine hv_iload_n C 2 5 dX8_hourAt_132 rfl rfl ?_
                      refine hv_iconst C dX8_hourAt_133 ?_
                      refine zx_callV [.int (iz ((st : Nat) : Int)), .ref p3, .int (iz q), .int (iz 0)] [.ref p8] C K (cw_at 1 rfl) rfl (k_X8_lineFor l A h p3 (t - A (280 + 8 * h + 2)) (sA τ 18 X) st q false hA (by repeat (first | exact hR | refine rl_sA (by decide) ?_)) o3 hs hh hl hlj hc h1 (by omega) (by omega)) ck_X8_206 (by decide) ⟨Nat.zero_le _, Nat.zero_le _⟩ rfl (Nat.le_of_ble_eq_true rfl) dX8_hourAt_134 (fun X11 => ?_)
                      refine hv_as ((line A st h (t - A (280 + 8 * h + 2)) false)) rfl ?_
                      refine zt_st (τ2 := sA τ 18 X11) (by rw [sA_sA]) ?_
                      refine hv_nm (fun x12 ex12 => ?_)
                      have rx12 : inI x12 := by rw [ex12]; exact (by have z := line_rng st (h := h) (t - A (280 + 8 * h + 2)) false hh hl (by omega); exact ⟨by omega, by omega⟩)
                      have zcl : clr A st h (t - A (280 + 8 * h + 2)) = decide ((0 ≤ x12 ∧ x12 ≤ A (14 + wN) - 1) ∧ A (800 + 320 * wN + 20 * (x12).toNat + 17) = 20) := by rw [ex12]; exact clr_c hh hl (by omega) (by omega)
                      refine zt_callV [.int (iz x12)] [] C K (cw_ob hO8) rfl (k_X1_clearsBy l A wN p8 (sA τ 18 X11) x12 hA hC8 hl hlj (by omega) (by omega)) ck_X8_210 (by decide) ⟨Nat.zero_le _, Nat.zero_le _⟩ rfl (Nat.le_of_ble_eq_true rfl) dX8_hourAt_137 ?_
                      refine hv_as (xb (decide ((0 ≤ x12 ∧ x12 ≤ A (14 + wN) - 1) ∧ A ((800 + 320 * wN + 20 * x12.toNat) + 17) = 20))) rfl ?_
                      refine hv_dif_eq C 155 dX8_hourAt_140 (by decide)  (fun h140 => ?_) (fun h140 => ?_)
                      · skip
                        refine hv_iinc C 5 8 [(5, .int (iz (((h : Nat) : Int) + 1))), (8, .int (iz 1)), (7, .int (iz (xb (decide ((A 9 = -1 ∨ A (280 + 8 * h + 7) ≤ A 9) ∧ A (280 + 8 * h + 6) / 2 ^ st % 2 ^ 1 = 1))))), (6, .ref p3), (0, .ref (b + 1)), (1, .int (iz ((st : Nat) : Int))), (2, .int (iz q)), (3, .int (iz ((wN : Nat) : Int))), (4, .int (iz kept))] dX8_hourAt_155 rfl (by decide) rfl ?_
                        refine hv_goto C 23 dX8_hourAt_158 (by decide) ?_
                        refine hv_loc [4, 5, 6, 7, 8, 0] [(0, .ref (b + 1)), (1, .int (iz ((st : Nat) : Int))), (2, .int (iz q)), (3, .int (iz ((wN : Nat) : Int))), (4, .int (iz kept)), (5, .int (iz (((h : Nat) : Int) + 1)))] rfl ?_
                        exact ih23 kept (h + 1) X11 (by omega) (by omega) (by omega) (by first | (rw [← hr9, hk_3 (A := A) (s := st) (h := h) (f := (A 4).toNat - h) (d := d) (t := t) (w := (wN : Int)) (kept := kept) (by omega) (cnd_t (by omega) (by omega) (by rw [zcl]; exact decide_eq_true h140)) (by omega) (by omega)]; rfl) | (rw [← hr9, hk_1 (A := A) (s := st) (h := h) (f := (A 4).toNat - h) (d := d) (t := t) (w := (wN : Int)) (kept := kept) (by omega) (by first | exact Or.inl (cnd_f1 (by omega)) | exact Or.inl (cnd_f2 (by rw [zcl]; exact decide_eq_false h140)) | exact Or.inr ⟨by omega, by omega⟩)]; rfl))
                      · skip
                        refine hv_iload C 7 1 dX8_hourAt_143 rfl ?_
                        refine hv_dif_eq C 151 dX8_hourAt_145 (by decide)  (fun h145 => ?_) (fun h145 => ?_)
                        · skip
                          refine hv_iload C 5 8 dX8_hourAt_151 rfl ?_
                          refine hv_istore C 4 [(4, .int (iz ((h : Nat) : Int))), (8, .int (iz 1)), (7, .int (iz (xb (decide ((A 9 = -1 ∨ A (280 + 8 * h + 7) ≤ A 9) ∧ A (280 + 8 * h + 6) / 2 ^ st % 2 ^ 1 = 1))))), (6, .ref p3), (0, .ref (b + 1)), (1, .int (iz ((st : Nat) : Int))), (2, .int (iz q)), (3, .int (iz ((wN : Nat) : Int))), (5, .int (iz ((h : Nat) : Int)))] dX8_hourAt_153 (by decide) rfl ?_
                          refine hv_iinc C 5 8 [(5, .int (iz (((h : Nat) : Int) + 1))), (4, .int (iz ((h : Nat) : Int))), (8, .int (iz 1)), (7, .int (iz (xb (decide ((A 9 = -1 ∨ A (280 + 8 * h + 7) ≤ A 9) ∧ A (280 + 8 * h + 6) / 2 ^ st % 2 ^ 1 = 1))))), (6, .ref p3), (0, .ref (b + 1)), (1, .int (iz ((st : Nat) : Int))), (2, .int (iz q)), (3, .int (iz ((wN : Nat) : Int)))] dX8_hourAt_155 rfl (by decide) rfl ?_
                          refine hv_goto C 23 dX8_hourAt_158 (by decide) ?_
                          refine hv_loc [5, 6, 7, 8, 1, 0] [(0, .ref (b + 1)), (1, .int (iz ((st : Nat) : Int))), (2, .int (iz q)), (3, .int (iz ((wN : Nat) : Int))), (4, .int (iz ((h : Nat) : Int))), (5, .int (iz (((h : Nat) : Int) + 1)))] rfl ?_
                          exact ih23 ((h : Nat) : Int) (h + 1) X11 (by omega) (by omega) (by omega) (by first | (rw [← hr9, hk_3 (A := A) (s := st) (h := h) (f := (A 4).toNat - h) (d := d) (t := t) (w := (wN : Int)) (kept := kept) (by omega) (cnd_t (by omega) (by omega) (by rw [zcl]; exact decide_eq_true h140)) (by omega) (by omega)]; rfl) | (rw [← hr9, hk_1 (A := A) (s := st) (h := h) (f := (A 4).toNat - h) (d := d) (t := t) (w := (wN : Int)) (kept := kept) (by omega) (by first | exact Or.inl (cnd_f1 (by omega)) | exact Or.inl (cnd_f2 (by rw [zcl]; exact decide_eq_false h140)) | exact Or.inr ⟨by omega, by omega⟩)]; rfl))
                        · skip
                          have zv : hk9 A st d t (member A st d) (A 4).toNat 0 (-1) = (h : Int) := by rw [zmb, ← hr9]; exact hk_2 (by omega) (cnd_t (by omega) (by omega) (by rw [zcl]; exact decide_eq_true h140)) (by omega)
                          refine hv_iload C 5 8 dX8_hourAt_148 rfl ?_
                          exact zx_iret C hr hlk (by first | exact zv.symm | omega) ⟨X11, rfl⟩ dX8_hourAt_150
                    · skip
                      refine hv_iload C 8 0 dX8_hourAt_117 rfl ?_
                      refine hv_if_eq C 155 dX8_hourAt_119 (by decide) (by decide) (fun h => absurd h (by decide)) (fun _ => ?_)
                      refine hv_aload_n C 0 3 dX8_hourAt_122 rfl rfl ?_
                      refine zc_get C K (v := .ref (b + 10)) 15 rfl hu_9 (by decide) (cw_at 1 rfl) rfl fl_X8_53 rfl dX8_hourAt_123 ?_
                      refine hv_iload_n C 3 6 dX8_hourAt_126 rfl rfl ?_
                      refine zc_aald C K (f := (fun q => rfv ((τ 10) q))) 3 wN (cw_at 10 rfl) rfl (by omega) (by omega) (by decide) dX8_hourAt_127 ?_
                      obtain ⟨p8, e8, hC8⟩ := hR.con wN (by omega)
                      obtain ⟨d8, c8, t8, _, _, _, hO8, _⟩ := id hC8
                      refine hv_asv (.ref p8) (by show va_rf (rfv (τ 10 wN)) = _; rw [e8, rfv_n]; rfl) ?_
                      refine hv_aload_n C 0 3 dX8_hourAt_128 rfl rfl ?_
                      refine hv_iload_n C 1 4 dX8_hourAt_129 rfl rfl ?_
                      refine hv_aload C 6 2 dX8_hourAt_130 rfl ?_
                      refine hv_iload_n C 2 5 dX8_hourAt_132 rfl rfl ?_
                      refine hv_iconst C dX8_hourAt_133 ?_
                      refine zx_callV [.int (iz ((st : Nat) : Int)), .ref p3, .int (iz q), .int (iz 0)] [.ref p8] C K (cw_at 1 rfl) rfl (k_X8_lineFor l A h p3 (t - A (280 + 8 * h + 2)) (sA τ 18 X) st q false hA (by repeat (first | exact hR | refine rl_sA (by decide) ?_)) o3 hs hh hl hlj hc h1 (by omega) (by omega)) ck_X8_206 (by decide) ⟨Nat.zero_le _, Nat.zero_le _⟩ rfl (Nat.le_of_ble_eq_true rfl) dX8_hourAt_134 (fun X13 => ?_)
                      refine hv_as ((line A st h (t - A (280 + 8 * h + 2)) false)) rfl ?_
                      refine zt_st (τ2 := sA τ 18 X13) (by rw [sA_sA]) ?_
                      refine hv_nm (fun x14 ex14 => ?_)
                      have rx14 : inI x14 := by rw [ex14]; exact (by have z := line_rng st (h := h) (t - A (280 + 8 * h + 2)) false hh hl (by omega); exact ⟨by omega, by omega⟩)
                      have zcl : clr A st h (t - A (280 + 8 * h + 2)) = decide ((0 ≤ x14 ∧ x14 ≤ A (14 + wN) - 1) ∧ A (800 + 320 * wN + 20 * (x14).toNat + 17) = 20) := by rw [ex14]; exact clr_c hh hl (by omega) (by omega)
                      refine zt_callV [.int (iz x14)] [] C K (cw_ob hO8) rfl (k_X1_clearsBy l A wN p8 (sA τ 18 X13) x14 hA hC8 hl hlj (by omega) (by omega)) ck_X8_210 (by decide) ⟨Nat.zero_le _, Nat.zero_le _⟩ rfl (Nat.le_of_ble_eq_true rfl) dX8_hourAt_137 ?_
                      refine hv_as (xb (decide ((0 ≤ x14 ∧ x14 ≤ A (14 + wN) - 1) ∧ A ((800 + 320 * wN + 20 * x14.toNat) + 17) = 20))) rfl ?_
                      refine hv_dif_eq C 155 dX8_hourAt_140 (by decide)  (fun h140 => ?_) (fun h140 => ?_)
                      · skip
                        refine hv_iinc C 5 8 [(5, .int (iz (((h : Nat) : Int) + 1))), (8, .int (iz 1)), (7, .int (iz (xb (decide ((A 9 = -1 ∨ A (280 + 8 * h + 7) ≤ A 9) ∧ A (280 + 8 * h + 6) / 2 ^ st % 2 ^ 1 = 1))))), (6, .ref p3), (0, .ref (b + 1)), (1, .int (iz ((st : Nat) : Int))), (2, .int (iz q)), (3, .int (iz ((wN : Nat) : Int))), (4, .int (iz kept))] dX8_hourAt_155 rfl (by decide) rfl ?_
                        refine hv_goto C 23 dX8_hourAt_158 (by decide) ?_
                        refine hv_loc [4, 5, 6, 7, 8, 0] [(0, .ref (b + 1)), (1, .int (iz ((st : Nat) : Int))), (2, .int (iz q)), (3, .int (iz ((wN : Nat) : Int))), (4, .int (iz kept)), (5, .int (iz (((h : Nat) : Int) + 1)))] rfl ?_
                        exact ih23 kept (h + 1) X13 (by omega) (by omega) (by omega) (by first | (rw [← hr9, hk_3 (A := A) (s := st) (h := h) (f := (A 4).toNat - h) (d := d) (t := t) (w := (wN : Int)) (kept := kept) (by omega) (cnd_t (by omega) (by omega) (by rw [zcl]; exact decide_eq_true h140)) (by omega) (by omega)]; rfl) | (rw [← hr9, hk_1 (A := A) (s := st) (h := h) (f := (A 4).toNat - h) (d := d) (t := t) (w := (wN : Int)) (kept := kept) (by omega) (by first | exact Or.inl (cnd_f1 (by omega)) | exact Or.inl (cnd_f2 (by rw [zcl]; exact decide_eq_false h140)) | exact Or.inr ⟨by omega, by omega⟩)]; rfl))
                      · skip
                        refine hv_iload C 7 1 dX8_hourAt_143 rfl ?_
                        refine hv_dif_eq C 151 dX8_hourAt_145 (by decide)  (fun h145 => ?_) (fun h145 => ?_)
                        · skip
                          refine hv_iload C 5 8 dX8_hourAt_151 rfl ?_
                          refine hv_istore C 4 [(4, .int (iz ((h : Nat) : Int))), (8, .int (iz 1)), (7, .int (iz (xb (decide ((A 9 = -1 ∨ A (280 + 8 * h + 7) ≤ A 9) ∧ A (280 + 8 * h + 6) / 2 ^ st % 2 ^ 1 = 1))))), (6, .ref p3), (0, .ref (b + 1)), (1, .int (iz ((st : Nat) : Int))), (2, .int (iz q)), (3, .int (iz ((wN : Nat) : Int))), (5, .int (iz ((h : Nat) : Int)))] dX8_hourAt_153 (by decide) rfl ?_
                          refine hv_iinc C 5 8 [(5, .int (iz (((h : Nat) : Int) + 1))), (4, .int (iz ((h : Nat) : Int))), (8, .int (iz 1)), (7, .int (iz (xb (decide ((A 9 = -1 ∨ A (280 + 8 * h + 7) ≤ A 9) ∧ A (280 + 8 * h + 6) / 2 ^ st % 2 ^ 1 = 1))))), (6, .ref p3), (0, .ref (b + 1)), (1, .int (iz ((st : Nat) : Int))), (2, .int (iz q)), (3, .int (iz ((wN : Nat) : Int)))] dX8_hourAt_155 rfl (by decide) rfl ?_
                          refine hv_goto C 23 dX8_hourAt_158 (by decide) ?_
                          refine hv_loc [5, 6, 7, 8, 1, 0] [(0, .ref (b + 1)), (1, .int (iz ((st : Nat) : Int))), (2, .int (iz q)), (3, .int (iz ((wN : Nat) : Int))), (4, .int (iz ((h : Nat) : Int))), (5, .int (iz (((h : Nat) : Int) + 1)))] rfl ?_
                          exact ih23 ((h : Nat) : Int) (h + 1) X13 (by omega) (by omega) (by omega) (by first | (rw [← hr9, hk_3 (A := A) (s := st) (h := h) (f := (A 4).toNat - h) (d := d) (t := t) (w := (wN : Int)) (kept := kept) (by omega) (cnd_t (by omega) (by omega) (by rw [zcl]; exact decide_eq_true h140)) (by omega) (by omega)]; rfl) | (rw [← hr9, hk_1 (A := A) (s := st) (h := h) (f := (A 4).toNat - h) (d := d) (t := t) (w := (wN : Int)) (kept := kept) (by omega) (by first | exact Or.inl (cnd_f1 (by omega)) | exact Or.inl (cnd_f2 (by rw [zcl]; exact decide_eq_false h140)) | exact Or.inr ⟨by omega, by omega⟩)]; rfl))
                        · skip
                          have zv : hk9 A st d t (member A st d) (A 4).toNat 0 (-1) = (h : Int) := by rw [zmb, ← hr9]; exact hk_2 (by omega) (cnd_t (by omega) (by omega) (by rw [zcl]; exact decide_eq_true h140)) (by omega)
                          refine hv_iload C 5 8 dX8_hourAt_148 rfl ?_
                          exact zx_iret C hr hlk (by first | exact zv.symm | omega) ⟨X13, rfl⟩ dX8_hourAt_150
              · skip
                refine hv_goto C 155 dX8_hourAt_79 (by decide) ?_
                refine hv_iinc C 5 6 [(5, .int (iz (((h : Nat) : Int) + 1))), (6, .ref p3), (0, .ref (b + 1)), (1, .int (iz ((st : Nat) : Int))), (2, .int (iz q)), (3, .int (iz ((wN : Nat) : Int))), (4, .int (iz kept))] dX8_hourAt_155 rfl (by decide) rfl ?_
                refine hv_goto C 23 dX8_hourAt_158 (by decide) ?_
                refine hv_loc [2, 3, 4, 5, 6, 0] [(0, .ref (b + 1)), (1, .int (iz ((st : Nat) : Int))), (2, .int (iz q)), (3, .int (iz ((wN : Nat) : Int))), (4, .int (iz kept)), (5, .int (iz (((h : Nat) : Int) + 1)))] rfl ?_
                exact ih23 kept (h + 1) X (by omega) (by omega) (by omega) (by first | (rw [← hr9, hk_3 (A := A) (s := st) (h := h) (f := (A 4).toNat - h) (d := d) (t := t) (w := (wN : Int)) (kept := kept) (by omega) (cnd_t (by omega) (by omega) (by rw [zcl]; exact decide_eq_true h140)) (by omega) (by omega)]; rfl) | (rw [← hr9, hk_1 (A := A) (s := st) (h := h) (f := (A 4).toNat - h) (d := d) (t := t) (w := (wN : Int)) (kept := kept) (by omega) (by first | exact Or.inl (cnd_f1 (by omega)) | exact Or.inl (cnd_f2 (by rw [zcl]; exact decide_eq_false h140)) | exact Or.inr ⟨by omega, by omega⟩)]; rfl))
    refine hv_loc [3, 4, 5, 2, 1, 0] [(0, .ref (b + 1)), (1, .int (iz ((st : Nat) : Int))), (2, .int (iz q)), (3, .int (iz ((wN : Nat) : Int))), (4, .int (iz (-1))), (5, .int (iz 0))] rfl ?_
    refine zt_st (τ2 := sA τ 18 (τ 18)) ((sA_id τ 18).symm) ?_
    exact L23 _ (-1) 0 (τ 18) (Nat.lt_succ_self _) (by omega) (by omega) rfl
  · skip
    have zv : hk9 A st d t (member A st d) (A 4).toNat 0 (-1) = -1 := by rw [show member A st d = -1 by omega]; exact hk_m hh _ _ _ _ _ _ (by omega)
    refine hv_iconst C dX8_hourAt_15 ?_
    exact zx_iret C hr hlk (by first | exact zv.symm | omega) ⟨τ 18, (sA_id τ 18).symm⟩ dX8_hourAt_16
