theorem bg9_b {A Y W P O G : Nat → Int} {n x k : Nat} {B : Int} (hG : ∀ j, j < k → 0 ≤ G j ∧ G j + 2 ≤ B) : ∀ (f : Nat) (t : Int), 0 ≤ t → t ≤ B → bg9 A Y W P O G n x k f t = -1 ∨ (t ≤ bg9 A Y W P O G n x k f t ∧ bg9 A Y W P O G n x k f t ≤ B)
  | 0, t, h0, h1 => Or.inr (by unfold bg9; omega)
  | f + 1, t, h0, h1 => by
    unfold bg9
    split
    · exact Or.inr ⟨by omega, h1⟩
    · split
      · exact Or.inl rfl
      · next c =>
        rcases so9_r W P O G x k t n with h | h
        · exact absurd h c
        · obtain ⟨h2, _, q, _, h4, h5⟩ := h
          have := hG q h4
          rcases bg9_b hG f (so9 W P O G x k t n) (by omega) (by omega) with z | z
          · exact Or.inl z
          · exact Or.inr ⟨by omega, z.2⟩
theorem be9_b {A Y W P O G : Nat → Int} {n k : Nat} {B fr : Int} (hG : ∀ j, j < k → 0 ≤ G j ∧ G j + 2 ≤ B) (h0 : 0 ≤ fr) (h1 : fr ≤ B) : be9 A Y W P O G n k fr = -1 ∨ (fr ≤ be9 A Y W P O G n k fr ∧ be9 A Y W P O G n k fr ≤ B) := by
  unfold be9
  split
  · exact Or.inr ⟨by omega, h1⟩
  · exact bg9_b hG _ _ h0 h1
def sh9 (F : Nat → Int) : Nat → Nat
  | 0 => 0
  | h + 1 => if F (h + 1) < F (sh9 F h) then h + 1 else sh9 F h
theorem sh9_le (F : Nat → Int) : ∀ h, sh9 F h ≤ h
  | 0 => Nat.le_refl 0
  | h + 1 => by
    have := sh9_le F h
    unfold sh9
    split <;> omega
def du9 (P O : Nat → Int) (k : Nat) : Int := if P (O k).toNat = 0 then 2 else 3
def fx9q (F : Nat → Int) (hs : Nat) (last : Int) : Int := if last < F (sh9 F hs) then F (sh9 F hs) else last
/-- the seconds of an order: r things are left, from the k-th on -/
def sx9 (A Y W P O : Nat → Int) (n hs : Nat) : Nat → Nat → (Nat → Int) → (Nat → Int) → Int → Int → Int × (Nat → Int) × (Nat → Int)
  | 0, _, G, F, _, dn => (dn, G, F)
  | r + 1, k, G, F, last, dn =>
    if be9 A Y W P O G n k (fx9q F hs last) < 0 then (-1, G, F)
    else sx9 A Y W P O n hs r (k + 1) (ua G k (be9 A Y W P O G n k (fx9q F hs last))) (ua F (sh9 F hs) (be9 A Y W P O G n k (fx9q F hs last) + du9 P O k)) (be9 A Y W P O G n k (fx9q F hs last)) (if dn < be9 A Y W P O G n k (fx9q F hs last) + du9 P O k then be9 A Y W P O G n k (fx9q F hs last) + du9 P O k else dn)
theorem sx9_0 {A Y W P O G F : Nat → Int} {n hs k : Nat} {last dn : Int} {r : Nat} (h : r = 0) : sx9 A Y W P O n hs r k G F last dn = (dn, G, F) := by subst h; rfl
theorem sx9_f {A Y W P O G F : Nat → Int} {n hs k : Nat} {last dn : Int} {r : Nat} (h : 0 < r) (c : be9 A Y W P O G n k (fx9q F hs last) < 0) : sx9 A Y W P O n hs r k G F last dn = (-1, G, F) := by
  obtain ⟨g1, rfl⟩ : ∃ q, r = q + 1 := ⟨r - 1, by omega⟩
  unfold sx9
  rw [if_pos c]
theorem sx9_s {A Y W P O G F : Nat → Int} {n hs k hd : Nat} {last dn t v d2 : Int} {r : Nat} (h : 0 < r) (e : be9 A Y W P O G n k (fx9q F hs last) = t) (c : ¬ t < 0) (e2 : t + du9 P O k = v) (e3 : sh9 F hs = hd) (e4 : (if dn < v then v else dn) = d2) : sx9 A Y W P O n hs r k G F last dn = sx9 A Y W P O n hs (r - 1) (k + 1) (ua G k t) (ua F hd v) t d2 := by
  obtain ⟨g1, rfl⟩ : ∃ q, r = q + 1 := ⟨r - 1, by omega⟩
  conv => lhs; unfold sx9
  rw [e, e2, e3, e4, if_neg c]
  rfl
theorem s1213 (σ : Nat → Nat → Int) (a b c X Y : Nat → Int) : sA (sA (sA (sA (sA σ 11 a) 12 b) 13 c) 12 X) 13 Y = sA (sA (sA σ 11 a) 12 X) 13 Y := by
  funext x
  simp only [sA]
  (repeat' split) <;> first | rfl | omega
theorem s11if (P : Prop) [Decidable P] (σ : Nat → Nat → Int) (a b c X : Nat → Int) : (if P then sA (sA (sA (sA σ 11 a) 12 b) 13 c) 11 X else sA (sA (sA σ 11 a) 12 b) 13 c) = sA (sA (sA σ 11 (if P then X else a)) 12 b) 13 c := by
  split
  · funext x
    simp only [sA]
    (repeat' split) <;> first | rfl | omega
  · rfl

theorem dX12_seconds_0 : decode cX12_seconds 0 = .ok (.iconst 0, 1) := by decide +kernel
theorem dX12_seconds_1 : decode cX12_seconds 1 = .ok (.istore_n 1, 1) := by decide +kernel
theorem dX12_seconds_2 : decode cX12_seconds 2 = .ok (.iload_n 1, 1) := by decide +kernel
theorem dX12_seconds_3 : decode cX12_seconds 3 = .ok (.iconst 3, 1) := by decide +kernel
theorem dX12_seconds_4 : decode cX12_seconds 4 = .ok (.if_icmp .ge 16, 3) := by decide +kernel
theorem dX12_seconds_7 : decode cX12_seconds 7 = .ok (.aload_n 0, 1) := by decide +kernel
theorem dX12_seconds_8 : decode cX12_seconds 8 = .ok (.getfield 47, 3) := by decide +kernel
theorem dX12_seconds_11 : decode cX12_seconds 11 = .ok (.iload_n 1, 1) := by decide +kernel
theorem dX12_seconds_12 : decode cX12_seconds 12 = .ok (.iconst 0, 1) := by decide +kernel
theorem dX12_seconds_13 : decode cX12_seconds 13 = .ok (.iastore, 1) := by decide +kernel
theorem dX12_seconds_14 : decode cX12_seconds 14 = .ok (.iinc 1 1, 3) := by decide +kernel
theorem dX12_seconds_17 : decode cX12_seconds 17 = .ok (.goto (-15), 3) := by decide +kernel
theorem dX12_seconds_20 : decode cX12_seconds 20 = .ok (.iconst 0, 1) := by decide +kernel
theorem dX12_seconds_21 : decode cX12_seconds 21 = .ok (.istore_n 1, 1) := by decide +kernel
theorem dX12_seconds_22 : decode cX12_seconds 22 = .ok (.iconst 0, 1) := by decide +kernel
theorem dX12_seconds_23 : decode cX12_seconds 23 = .ok (.istore_n 2, 1) := by decide +kernel
theorem dX12_seconds_24 : decode cX12_seconds 24 = .ok (.iconst 0, 1) := by decide +kernel
theorem dX12_seconds_25 : decode cX12_seconds 25 = .ok (.istore_n 3, 1) := by decide +kernel
theorem dX12_seconds_26 : decode cX12_seconds 26 = .ok (.iload_n 3, 1) := by decide +kernel
theorem dX12_seconds_27 : decode cX12_seconds 27 = .ok (.aload_n 0, 1) := by decide +kernel
theorem dX12_seconds_28 : decode cX12_seconds 28 = .ok (.getfield 259, 3) := by decide +kernel
theorem dX12_seconds_31 : decode cX12_seconds 31 = .ok (.aload_n 0, 1) := by decide +kernel
theorem dX12_seconds_32 : decode cX12_seconds 32 = .ok (.getfield 262, 3) := by decide +kernel
theorem dX12_seconds_35 : decode cX12_seconds 35 = .ok (.iadd, 1) := by decide +kernel
theorem dX12_seconds_36 : decode cX12_seconds 36 = .ok (.if_icmp .ge 153, 3) := by decide +kernel
theorem dX12_seconds_39 : decode cX12_seconds 39 = .ok (.iconst 0, 1) := by decide +kernel
theorem dX12_seconds_40 : decode cX12_seconds 40 = .ok (.istore 4, 2) := by decide +kernel
theorem dX12_seconds_42 : decode cX12_seconds 42 = .ok (.iconst 1, 1) := by decide +kernel
theorem dX12_seconds_43 : decode cX12_seconds 43 = .ok (.istore 5, 2) := by decide +kernel
theorem dX12_seconds_45 : decode cX12_seconds 45 = .ok (.iload 5, 2) := by decide +kernel
theorem dX12_seconds_47 : decode cX12_seconds 47 = .ok (.aload_n 0, 1) := by decide +kernel
theorem dX12_seconds_48 : decode cX12_seconds 48 = .ok (.getfield 7, 3) := by decide +kernel
theorem dX12_seconds_51 : decode cX12_seconds 51 = .ok (.bipush 13, 2) := by decide +kernel
theorem dX12_seconds_53 : decode cX12_seconds 53 = .ok (.iaload, 1) := by decide +kernel
theorem dX12_seconds_54 : decode cX12_seconds 54 = .ok (.if_icmp .ge 30, 3) := by decide +kernel
theorem dX12_seconds_57 : decode cX12_seconds 57 = .ok (.aload_n 0, 1) := by decide +kernel
theorem dX12_seconds_58 : decode cX12_seconds 58 = .ok (.getfield 47, 3) := by decide +kernel
theorem dX12_seconds_61 : decode cX12_seconds 61 = .ok (.iload 5, 2) := by decide +kernel
theorem dX12_seconds_63 : decode cX12_seconds 63 = .ok (.iaload, 1) := by decide +kernel
theorem dX12_seconds_64 : decode cX12_seconds 64 = .ok (.aload_n 0, 1) := by decide +kernel
theorem dX12_seconds_65 : decode cX12_seconds 65 = .ok (.getfield 47, 3) := by decide +kernel
theorem dX12_seconds_68 : decode cX12_seconds 68 = .ok (.iload 4, 2) := by decide +kernel
theorem dX12_seconds_70 : decode cX12_seconds 70 = .ok (.iaload, 1) := by decide +kernel
theorem dX12_seconds_71 : decode cX12_seconds 71 = .ok (.if_icmp .ge 7, 3) := by decide +kernel
theorem dX12_seconds_74 : decode cX12_seconds 74 = .ok (.iload 5, 2) := by decide +kernel
theorem dX12_seconds_76 : decode cX12_seconds 76 = .ok (.istore 4, 2) := by decide +kernel
theorem dX12_seconds_78 : decode cX12_seconds 78 = .ok (.iinc 5 1, 3) := by decide +kernel
theorem dX12_seconds_81 : decode cX12_seconds 81 = .ok (.goto (-36), 3) := by decide +kernel
theorem dX12_seconds_84 : decode cX12_seconds 84 = .ok (.aload_n 0, 1) := by decide +kernel
theorem dX12_seconds_85 : decode cX12_seconds 85 = .ok (.iload_n 3, 1) := by decide +kernel
theorem dX12_seconds_86 : decode cX12_seconds 86 = .ok (.aload_n 0, 1) := by decide +kernel
theorem dX12_seconds_87 : decode cX12_seconds 87 = .ok (.getfield 47, 3) := by decide +kernel
theorem dX12_seconds_90 : decode cX12_seconds 90 = .ok (.iload 4, 2) := by decide +kernel
theorem dX12_seconds_92 : decode cX12_seconds 92 = .ok (.iaload, 1) := by decide +kernel
theorem dX12_seconds_93 : decode cX12_seconds 93 = .ok (.iload_n 1, 1) := by decide +kernel
theorem dX12_seconds_94 : decode cX12_seconds 94 = .ok (.if_icmp .le 13, 3) := by decide +kernel
theorem dX12_seconds_97 : decode cX12_seconds 97 = .ok (.aload_n 0, 1) := by decide +kernel
theorem dX12_seconds_98 : decode cX12_seconds 98 = .ok (.getfield 47, 3) := by decide +kernel
theorem dX12_seconds_101 : decode cX12_seconds 101 = .ok (.iload 4, 2) := by decide +kernel
theorem dX12_seconds_103 : decode cX12_seconds 103 = .ok (.iaload, 1) := by decide +kernel
theorem dX12_seconds_104 : decode cX12_seconds 104 = .ok (.goto 4, 3) := by decide +kernel
theorem dX12_seconds_107 : decode cX12_seconds 107 = .ok (.iload_n 1, 1) := by decide +kernel
theorem dX12_seconds_108 : decode cX12_seconds 108 = .ok (.invokevirtual 265, 3) := by decide +kernel
theorem dX12_seconds_111 : decode cX12_seconds 111 = .ok (.istore 5, 2) := by decide +kernel
theorem dX12_seconds_113 : decode cX12_seconds 113 = .ok (.iload 5, 2) := by decide +kernel
theorem dX12_seconds_115 : decode cX12_seconds 115 = .ok (.ifCond .ge 5, 3) := by decide +kernel
theorem dX12_seconds_118 : decode cX12_seconds 118 = .ok (.iconst (-1), 1) := by decide +kernel
theorem dX12_seconds_119 : decode cX12_seconds 119 = .ok (.ireturn, 1) := by decide +kernel
theorem dX12_seconds_120 : decode cX12_seconds 120 = .ok (.aload_n 0, 1) := by decide +kernel
theorem dX12_seconds_121 : decode cX12_seconds 121 = .ok (.getfield 44, 3) := by decide +kernel
theorem dX12_seconds_124 : decode cX12_seconds 124 = .ok (.iload_n 3, 1) := by decide +kernel
theorem dX12_seconds_125 : decode cX12_seconds 125 = .ok (.iload 5, 2) := by decide +kernel
theorem dX12_seconds_127 : decode cX12_seconds 127 = .ok (.iastore, 1) := by decide +kernel
theorem dX12_seconds_128 : decode cX12_seconds 128 = .ok (.iload 5, 2) := by decide +kernel
theorem dX12_seconds_130 : decode cX12_seconds 130 = .ok (.istore_n 1, 1) := by decide +kernel
theorem dX12_seconds_131 : decode cX12_seconds 131 = .ok (.aload_n 0, 1) := by decide +kernel
theorem dX12_seconds_132 : decode cX12_seconds 132 = .ok (.getfield 47, 3) := by decide +kernel
theorem dX12_seconds_135 : decode cX12_seconds 135 = .ok (.iload 4, 2) := by decide +kernel
theorem dX12_seconds_137 : decode cX12_seconds 137 = .ok (.iload 5, 2) := by decide +kernel
theorem dX12_seconds_139 : decode cX12_seconds 139 = .ok (.aload_n 0, 1) := by decide +kernel
theorem dX12_seconds_140 : decode cX12_seconds 140 = .ok (.getfield 38, 3) := by decide +kernel
theorem dX12_seconds_143 : decode cX12_seconds 143 = .ok (.aload_n 0, 1) := by decide +kernel
theorem dX12_seconds_144 : decode cX12_seconds 144 = .ok (.getfield 41, 3) := by decide +kernel
theorem dX12_seconds_147 : decode cX12_seconds 147 = .ok (.iload_n 3, 1) := by decide +kernel
theorem dX12_seconds_148 : decode cX12_seconds 148 = .ok (.iaload, 1) := by decide +kernel
theorem dX12_seconds_149 : decode cX12_seconds 149 = .ok (.baload, 1) := by decide +kernel
theorem dX12_seconds_150 : decode cX12_seconds 150 = .ok (.ifCond .eq 7, 3) := by decide +kernel
theorem dX12_seconds_153 : decode cX12_seconds 153 = .ok (.iconst 3, 1) := by decide +kernel
theorem dX12_seconds_154 : decode cX12_seconds 154 = .ok (.goto 4, 3) := by decide +kernel
theorem dX12_seconds_157 : decode cX12_seconds 157 = .ok (.iconst 2, 1) := by decide +kernel
theorem dX12_seconds_158 : decode cX12_seconds 158 = .ok (.iadd, 1) := by decide +kernel
theorem dX12_seconds_159 : decode cX12_seconds 159 = .ok (.iastore, 1) := by decide +kernel
theorem dX12_seconds_160 : decode cX12_seconds 160 = .ok (.aload_n 0, 1) := by decide +kernel
theorem dX12_seconds_161 : decode cX12_seconds 161 = .ok (.getfield 47, 3) := by decide +kernel
theorem dX12_seconds_164 : decode cX12_seconds 164 = .ok (.iload 4, 2) := by decide +kernel
theorem dX12_seconds_166 : decode cX12_seconds 166 = .ok (.iaload, 1) := by decide +kernel
theorem dX12_seconds_167 : decode cX12_seconds 167 = .ok (.iload_n 2, 1) := by decide +kernel
theorem dX12_seconds_168 : decode cX12_seconds 168 = .ok (.if_icmp .le 13, 3) := by decide +kernel
theorem dX12_seconds_171 : decode cX12_seconds 171 = .ok (.aload_n 0, 1) := by decide +kernel
theorem dX12_seconds_172 : decode cX12_seconds 172 = .ok (.getfield 47, 3) := by decide +kernel
theorem dX12_seconds_175 : decode cX12_seconds 175 = .ok (.iload 4, 2) := by decide +kernel
theorem dX12_seconds_177 : decode cX12_seconds 177 = .ok (.iaload, 1) := by decide +kernel
theorem dX12_seconds_178 : decode cX12_seconds 178 = .ok (.goto 4, 3) := by decide +kernel
theorem dX12_seconds_181 : decode cX12_seconds 181 = .ok (.iload_n 2, 1) := by decide +kernel
theorem dX12_seconds_182 : decode cX12_seconds 182 = .ok (.istore_n 2, 1) := by decide +kernel
theorem dX12_seconds_183 : decode cX12_seconds 183 = .ok (.iinc 3 1, 3) := by decide +kernel
theorem dX12_seconds_186 : decode cX12_seconds 186 = .ok (.goto (-160), 3) := by decide +kernel
theorem dX12_seconds_189 : decode cX12_seconds 189 = .ok (.iload_n 2, 1) := by decide +kernel
theorem dX12_seconds_190 : decode cX12_seconds 190 = .ok (.ireturn, 1) := by decide +kernel
set_option maxRecDepth 100000 in
set_option maxHeartbeats 4000000 in
theorem k_seconds (l : Launch) {D : va_G} {cI cZ : ClassId} {a0 : Nat} (σ : Nat → Nat → Int)  (hσ : rg σ) (hH : 1 ≤ σ 1 13 ∧ σ 1 13 ≤ 3) (hO : ∀ j, j < 7 → 0 ≤ σ 11 j ∧ σ 11 j ≤ 6) (hW : ∀ j, j < 7 → 0 ≤ σ 9 j ∧ σ 9 j ≤ 11) (hY : ∀ j, j < 12 → 0 ≤ σ 14 j ∧ σ 14 j ≤ 24) (hn : 0 ≤ σ 0 17 ∧ 0 ≤ σ 0 18 ∧ σ 0 17 + σ 0 18 ≤ 7) : moM l D cI cZ a0 yX12_seconds cX12_seconds 6 (some .int) 2 52 [.ref a0] σ (some (.int (iz ((sx9 (σ 1) (σ 14) (σ 9) (σ 10) (σ 11) (σ 0 17 + σ 0 18).toNat ((σ 1 13).toNat - 1) (σ 0 17 + σ 0 18).toNat 0 (σ 12) (zt (σ 13) 3) 0 0).1)))) (sA (sA σ 12 (sx9 (σ 1) (σ 14) (σ 9) (σ 10) (σ 11) (σ 0 17 + σ 0 18).toNat ((σ 1 13).toNat - 1) (σ 0 17 + σ 0 18).toNat 0 (σ 12) (zt (σ 13) 3) 0 0).2.1) 13 (sx9 (σ 1) (σ 14) (σ 9) (σ 10) (σ 11) (σ 0 17 + σ 0 18).toNat ((σ 1 13).toNat - 1) (σ 0 17 + σ 0 18).toNat 0 (σ 12) (zt (σ 13) 3) 0 0).2.2) := by
  refine mo_start (by decide) rfl (Nat.le_of_ble_eq_true rfl) ?_
  intro p e s m args below meth c C K hr hlk
  refine hv_iconst C dX12_seconds_0 ?_
  refine hv_istore_n C 1 [(1, .int (iz 0)), (0, .ref a0)] dX12_seconds_1 rfl (by decide) rfl ?_
  have L2 : ∀ (f : Nat) (h1 : Nat) (F1 : Nat → Int), 3 - h1 < f → (h1 ≤ 3) → (F1 = zt (σ 13) h1) → hvV p l e { frames := 2, cells := 0, slots := 0, locals := 52 } s m args below meth c 6 (moR a0) 0 0 (MQ below (moQ D cI cZ a0 (some (.int (iz ((sx9 (σ 1) (σ 14) (σ 9) (σ 10) (σ 11) (σ 0 17 + σ 0 18).toNat ((σ 1 13).toNat - 1) (σ 0 17 + σ 0 18).toNat 0 (σ 12) (zt (σ 13) 3) 0 0).1)))) (sA (sA σ 12 (sx9 (σ 1) (σ 14) (σ 9) (σ 10) (σ 11) (σ 0 17 + σ 0 18).toNat ((σ 1 13).toNat - 1) (σ 0 17 + σ 0 18).toNat 0 (σ 12) (zt (σ 13) 3) 0 0).2.1) 13 (sx9 (σ 1) (σ 14) (σ 9) (σ 10) (σ 11) (σ 0 17 + σ 0 18).toNat ((σ 1 13).toNat - 1) (σ 0 17 + σ 0 18).toNat 0 (σ 12) (zt (σ 13) 3) 0 0).2.2)) args s 0 0 (moR a0)) (moI D cI cZ a0 s.heap (sA σ 13 F1)) 2 [(0, .ref a0), (1, .int (iz ((h1 : Nat) : Int)))] [] := by
    intro f
    induction f with
    | zero => intro _ _ hm; exact absurd hm (Nat.not_lt_zero _)
    | succ f ih2 =>
      intro h1 F1 hm2 hh1 hF1
      refine hv_iload_n C 1 1 dX12_seconds_2 rfl rfl ?_
      refine hv_iconst C dX12_seconds_3 ?_
      refine hv_icmp_ge C 20 dX12_seconds_4 (by decide) (by omega) (by omega) (fun h4 => ?_) (fun h4 => ?_)
      · skip
        refine hv_iconst C dX12_seconds_20 ?_
        refine hv_istore_n C 1 [(1, .int (iz 0)), (0, .ref a0)] dX12_seconds_21 rfl (by decide) rfl ?_
        refine hv_iconst C dX12_seconds_22 ?_
        refine hv_istore_n C 2 [(2, .int (iz 0)), (1, .int (iz 0)), (0, .ref a0)] dX12_seconds_23 rfl (by decide) rfl ?_
        refine hv_iconst C dX12_seconds_24 ?_
        refine hv_istore_n C 3 [(3, .int (iz 0)), (2, .int (iz 0)), (1, .int (iz 0)), (0, .ref a0)] dX12_seconds_25 rfl (by decide) rfl ?_
        have L26 : ∀ (f : Nat) (last : Int) (dn : Int) (k : Nat) (G9 : Nat → Int) (F9 : Nat → Int), 7 - k < f → (k ≤ 7 ∧ (k : Int) ≤ σ 0 17 + σ 0 18) → (0 ≤ last ∧ last ≤ 3 * (k : Int)) → (0 ≤ dn ∧ dn ≤ 3 * (k : Int)) → (∀ q, q < 3 → 0 ≤ F9 q ∧ F9 q ≤ 3 * (k : Int)) → (∀ j, j < k → 0 ≤ G9 j ∧ G9 j + 2 ≤ 3 * (k : Int)) → (∀ q, inI (F9 q)) → (∀ q, inI (G9 q)) → (sx9 (σ 1) (σ 14) (σ 9) (σ 10) (σ 11) (σ 0 17 + σ 0 18).toNat ((σ 1 13).toNat - 1) ((σ 0 17 + σ 0 18).toNat - k) k G9 F9 last dn = (sx9 (σ 1) (σ 14) (σ 9) (σ 10) (σ 11) (σ 0 17 + σ 0 18).toNat ((σ 1 13).toNat - 1) (σ 0 17 + σ 0 18).toNat 0 (σ 12) (zt (σ 13) 3) 0 0)) → hvV p l e { frames := 2, cells := 0, slots := 0, locals := 52 } s m args below meth c 6 (moR a0) 0 0 (MQ below (moQ D cI cZ a0 (some (.int (iz ((sx9 (σ 1) (σ 14) (σ 9) (σ 10) (σ 11) (σ 0 17 + σ 0 18).toNat ((σ 1 13).toNat - 1) (σ 0 17 + σ 0 18).toNat 0 (σ 12) (zt (σ 13) 3) 0 0).1)))) (sA (sA σ 12 (sx9 (σ 1) (σ 14) (σ 9) (σ 10) (σ 11) (σ 0 17 + σ 0 18).toNat ((σ 1 13).toNat - 1) (σ 0 17 + σ 0 18).toNat 0 (σ 12) (zt (σ 13) 3) 0 0).2.1) 13 (sx9 (σ 1) (σ 14) (σ 9) (σ 10) (σ 11) (σ 0 17 + σ 0 18).toNat ((σ 1 13).toNat - 1) (σ 0 17 + σ 0 18).toNat 0 (σ 12) (zt (σ 13) 3) 0 0).2.2)) args s 0 0 (moR a0)) (moI D cI cZ a0 s.heap (sA (sA σ 12 G9) 13 F9)) 26 [(0, .ref a0), (1, .int (iz last)), (2, .int (iz dn)), (3, .int (iz ((k : Nat) : Int)))] [] := by
          intro f
          induction f with
          | zero => intro _ _ _ _ _ hm; exact absurd hm (Nat.not_lt_zero _)
          | succ f ih26 =>
            intro last dn k G9 F9 hm26 hk hl hdn hF3 hG9 hFr hGr hr9
            refine hv_iload_n C 3 3 dX12_seconds_26 rfl rfl ?_
            refine hv_aload_n C 0 0 dX12_seconds_27 rfl rfl ?_
            refine mo_geti C K (x := (σ 0 17)) 17 (by decide) rfl mo_hw fl_259 rfl dX12_seconds_28 ?_
            refine hv_nm (fun x1 ex1 => ?_)
            have rx1 : inI x1 := by rw [ex1]; exact hσ 0 17
            refine hv_aload_n C 0 0 dX12_seconds_31 rfl rfl ?_
            refine mo_geti C K (x := (σ 0 18)) 18 (by decide) rfl mo_hw fl_262 rfl dX12_seconds_32 ?_
            refine hv_nm (fun x2 ex2 => ?_)
            have rx2 : inI x2 := by rw [ex2]; exact hσ 0 18
            refine hv_iadd C dX12_seconds_35 ?_
            refine hv_icmp_ge C 189 dX12_seconds_36 (by decide) (by omega) (by omega) (fun h36 => ?_) (fun h36 => ?_)
            · skip
              have zR : (sx9 (σ 1) (σ 14) (σ 9) (σ 10) (σ 11) (σ 0 17 + σ 0 18).toNat ((σ 1 13).toNat - 1) (σ 0 17 + σ 0 18).toNat 0 (σ 12) (zt (σ 13) 3) 0 0) = (dn, G9, F9) := by rw [← hr9]; exact sx9_0 (by omega)
              refine hv_iload_n C 2 2 dX12_seconds_189 rfl rfl ?_
              exact mo_iret (Qc := fun _ _ _ _ => True) C hr hlk (by rw [zR]) (by rw [zR]) dX12_seconds_190
            · skip
              have zF0 := hF3 0 (by omega)
              refine hv_iconst C dX12_seconds_39 ?_
              refine hv_istore C 4 [(4, .int (iz 0)), (0, .ref a0), (1, .int (iz last)), (2, .int (iz dn)), (3, .int (iz ((k : Nat) : Int)))] dX12_seconds_40 (by decide) rfl ?_
              refine hv_iconst C dX12_seconds_42 ?_
              refine hv_istore C 5 [(5, .int (iz 1)), (4, .int (iz 0)), (0, .ref a0), (1, .int (iz last)), (2, .int (iz dn)), (3, .int (iz ((k : Nat) : Int)))] dX12_seconds_43 (by decide) rfl ?_
              have L45 : ∀ (f : Nat) (hd : Nat) (h : Nat), 3 - h < f → (hd = sh9 F9 (h - 1)) → (1 ≤ h ∧ (h : Int) ≤ σ 1 13 ∧ hd < h) → hvV p l e { frames := 2, cells := 0, slots := 0, locals := 52 } s m args below meth c 6 (moR a0) 0 0 (MQ below (moQ D cI cZ a0 (some (.int (iz ((sx9 (σ 1) (σ 14) (σ 9) (σ 10) (σ 11) (σ 0 17 + σ 0 18).toNat ((σ 1 13).toNat - 1) (σ 0 17 + σ 0 18).toNat 0 (σ 12) (zt (σ 13) 3) 0 0).1)))) (sA (sA σ 12 (sx9 (σ 1) (σ 14) (σ 9) (σ 10) (σ 11) (σ 0 17 + σ 0 18).toNat ((σ 1 13).toNat - 1) (σ 0 17 + σ 0 18).toNat 0 (σ 12) (zt (σ 13) 3) 0 0).2.1) 13 (sx9 (σ 1) (σ 14) (σ 9) (σ 10) (σ 11) (σ 0 17 + σ 0 18).toNat ((σ 1 13).toNat - 1) (σ 0 17 + σ 0 18).toNat 0 (σ 12) (zt (σ 13) 3) 0 0).2.2)) args s 0 0 (moR a0)) (moI D cI cZ a0 s.heap (sA (sA σ 12 G9) 13 F9)) 45 [(0, .ref a0), (1, .int (iz last)), (2, .int (iz dn)), (3, .int (iz ((k : Nat) : Int))), (4, .int (iz ((hd : Nat) : Int))), (5, .int (iz ((h : Nat) : Int)))] [] := by
                intro f
                induction f with
                | zero => intro _ _ hm; exact absurd hm (Nat.not_lt_zero _)
                | succ f ih45 =>
                  intro hd h hm45 hhd hh3
                  refine hv_iload C 5 5 dX12_seconds_45 rfl ?_
                  refine hv_aload_n C 0 0 dX12_seconds_47 rfl rfl ?_
                  refine mo_geta C K 0 1 (by decide) rfl mo_hw fl_7 rfl dX12_seconds_48 ?_
                  refine hv_bipush C dX12_seconds_51 (by decide) ?_
                  refine mo_iald C K 1 9040 13 rfl (by omega) (by omega) (by decide) dX12_seconds_53 ?_
                  refine hv_as (σ 1 13) rfl ?_
                  refine hv_nm (fun x3 ex3 => ?_)
                  have rx3 : inI x3 := by rw [ex3]; exact hσ 1 13
                  refine hv_icmp_ge C 84 dX12_seconds_54 (by decide) (by omega) (by omega) (fun h54 => ?_) (fun h54 => ?_)
                  · skip
                    have zFd := hF3 hd (by omega)
                    have zsh : sh9 F9 ((σ 1 13).toNat - 1) = hd := by rw [hhd, show (σ 1 13).toNat - 1 = h - 1 by omega]
                    refine hv_aload_n C 0 0 dX12_seconds_84 rfl rfl ?_
                    refine hv_iload_n C 3 3 dX12_seconds_85 rfl rfl ?_
                    refine hv_aload_n C 0 0 dX12_seconds_86 rfl rfl ?_
                    refine mo_geta C K 23 13 (by decide) rfl mo_hw fl_47 rfl dX12_seconds_87 ?_
                    refine hv_iload C 4 4 dX12_seconds_90 rfl ?_
                    refine mo_iald C K 13 3 hd rfl (by omega) (by omega) (by decide) dX12_seconds_92 ?_
                    refine hv_as (F9 hd) rfl ?_
                    refine hv_nm (fun x4 ex4 => ?_)
                    refine hv_iload_n C 1 1 dX12_seconds_93 rfl rfl ?_
                    refine hv_icmp_le C 107 dX12_seconds_94 (by decide) (by omega) (by omega) (fun h94 => ?_) (fun h94 => ?_)
                    · skip
                      refine hv_iload_n C 1 1 dX12_seconds_107 rfl rfl ?_
                      have zfm : fx9q F9 ((σ 1 13).toNat - 1) last = last := by unfold fx9q; rw [zsh]; first | (rw [if_pos (by omega)]; omega) | (rw [if_neg (by omega)])
                      refine mo_call [.int (iz ((k : Nat) : Int)), .int (iz last)] [] C K (k_begins l (sA (sA σ 12 G9) 13 F9) k last (by repeat (first | assumption | refine rg_sA ?_ ?_ | refine in_ua ?_ (by omega) | exact fun _ => hσ _ _)) (by omega) hO hW hY (show ∀ j, j < k → 0 ≤ G9 j ∧ G9 j ≤ 100 from fun j zj => by have z := hG9 j zj; omega) (show 0 ≤ σ 0 17 ∧ 0 ≤ σ 0 18 ∧ σ 0 17 + σ 0 18 ≤ 7 from hn) (by omega)) ck_begins (by decide) rfl (Nat.le_of_ble_eq_true rfl) dX12_seconds_108 ?_
                      refine hv_as ((be9 (σ 1) (σ 14) (σ 9) (σ 10) (σ 11) G9 ((σ 0 17) + (σ 0 18)).toNat k last)) rfl ?_
                      refine hv_nm (fun x5 ex5 => ?_)
                      have zbe : be9 (σ 1) (σ 14) (σ 9) (σ 10) (σ 11) G9 (σ 0 17 + σ 0 18).toNat k (fx9q F9 ((σ 1 13).toNat - 1) last) = x5 := by rw [zfm]; exact ex5.symm
                      have zbb : x5 = -1 ∨ (0 ≤ x5 ∧ x5 ≤ 3 * (k : Int)) := by rw [← zbe]; rcases be9_b (fr := fx9q F9 ((σ 1 13).toNat - 1) last) (A := σ 1) (Y := σ 14) (W := σ 9) (P := σ 10) (O := σ 11) (n := (σ 0 17 + σ 0 18).toNat) hG9 (by omega) (by omega) with z | z; exact Or.inl z; (right; omega)
                      refine hv_istore C 5 [(5, .int (iz x5)), (0, .ref a0), (1, .int (iz last)), (2, .int (iz dn)), (3, .int (iz ((k : Nat) : Int))), (4, .int (iz ((hd : Nat) : Int)))] dX12_seconds_111 (by decide) rfl ?_
                      refine hv_iload C 5 0 dX12_seconds_113 rfl ?_
                      refine hv_if_ge C 120 dX12_seconds_115 (by decide) (by omega) (fun h115 => ?_) (fun h115 => ?_)
                      · skip
                        refine hv_aload_n C 0 1 dX12_seconds_120 rfl rfl ?_
                        refine mo_geta C K 22 12 (by decide) rfl mo_hw fl_44 rfl dX12_seconds_121 ?_
                        refine hv_iload_n C 3 4 dX12_seconds_124 rfl rfl ?_
                        refine hv_iload C 5 0 dX12_seconds_125 rfl ?_
                        refine mo_iast C K 12 7 k rfl (moW_set12 _ _ _ _ _ _) (by omega) (by omega) (by decide) dX12_seconds_127 ?_
                        refine mo_st (σ2 := sA (sA σ 12 (ua G9 k x5)) 13 F9) (by rw [u2_sA, sA_comm (j := 13) (k := 12) (by decide), sA_sA]; first | done | rfl) ?_
                        refine hv_iload C 5 0 dX12_seconds_128 rfl ?_
                        refine hv_istore_n C 1 [(1, .int (iz x5)), (5, .int (iz x5)), (0, .ref a0), (2, .int (iz dn)), (3, .int (iz ((k : Nat) : Int))), (4, .int (iz ((hd : Nat) : Int)))] dX12_seconds_130 rfl (by decide) rfl ?_
                        refine hv_aload_n C 0 2 dX12_seconds_131 rfl rfl ?_
                        refine mo_geta C K 23 13 (by decide) rfl mo_hw fl_47 rfl dX12_seconds_132 ?_
                        refine hv_iload C 4 5 dX12_seconds_135 rfl ?_
                        refine hv_iload C 5 1 dX12_seconds_137 rfl ?_
                        refine hv_aload_n C 0 2 dX12_seconds_139 rfl rfl ?_
                        refine mo_geta C K 20 10 (by decide) rfl mo_hw fl_38 rfl dX12_seconds_140 ?_
                        refine hv_aload_n C 0 2 dX12_seconds_143 rfl rfl ?_
                        refine mo_geta C K 21 11 (by decide) rfl mo_hw fl_41 rfl dX12_seconds_144 ?_
                        have zOk := hO k (by omega)
                        refine hv_iload_n C 3 4 dX12_seconds_147 rfl rfl ?_
                        refine mo_iald C K 11 7 k rfl (by omega) (by omega) (by decide) dX12_seconds_148 ?_
                        refine hv_as (σ 11 k) rfl ?_
                        refine hv_nm (fun x6 ex6 => ?_)
                        have rx6 : inI x6 := by rw [ex6]; exact hσ 11 k
                        obtain ⟨oN, rfl⟩ : ∃ n : Nat, x6 = (n : Int) := ⟨(x6).toNat, by omega⟩
                        refine mo_zald C K 10 7 oN rfl (by omega) (by omega) (by decide) dX12_seconds_149 ?_
                        refine hv_as (σ 10 oN) rfl ?_
                        refine hv_nm (fun x7 ex7 => ?_)
                        have rx7 : inI x7 := by rw [ex7]; exact hσ 10 oN
                        refine hv_if_eq C 157 dX12_seconds_150 (by decide) (by omega) (fun h150 => ?_) (fun h150 => ?_)
                        · skip
                          refine hv_iconst C dX12_seconds_157 ?_
                          have zdu : du9 (σ 10) (σ 11) k = 2 := by unfold du9; rw [show (σ 11 k).toNat = oN by omega]; first | (rw [if_pos (by omega)]; done) | (rw [if_neg (by omega)]; done)
                          refine hv_iadd C dX12_seconds_158 ?_
                          refine mo_iast C K 13 3 hd rfl (moW_set13 _ _ _ _ _ _) (by omega) (by omega) (by decide) dX12_seconds_159 ?_
                          refine mo_st (σ2 := sA (sA σ 12 (ua G9 k x5)) 13 (ua F9 hd (x5 + 2))) (by rw [u2_sA, sA_sA]; first | done | rfl) ?_
                          refine hv_aload_n C 0 2 dX12_seconds_160 rfl rfl ?_
                          refine mo_geta C K 23 13 (by decide) rfl mo_hw fl_47 rfl dX12_seconds_161 ?_
                          refine hv_iload C 4 5 dX12_seconds_164 rfl ?_
                          refine mo_iald C K 13 3 hd rfl (by omega) (by omega) (by decide) dX12_seconds_166 ?_
                          refine hv_as ((ua F9 hd (x5 + 2)) hd) rfl ?_
                          refine hv_as (((x5 + 2))) (ua_at _ _ _) ?_
                          refine hv_iload_n C 2 3 dX12_seconds_167 rfl rfl ?_
                          refine hv_icmp_le C 181 dX12_seconds_168 (by decide) (by omega) (by omega) (fun h168 => ?_) (fun h168 => ?_)
                          · skip
                            refine hv_iload_n C 2 3 dX12_seconds_181 rfl rfl ?_
                            refine hv_istore_n C 2 [(2, .int (iz dn)), (1, .int (iz x5)), (5, .int (iz x5)), (0, .ref a0), (3, .int (iz ((k : Nat) : Int))), (4, .int (iz ((hd : Nat) : Int)))] dX12_seconds_182 rfl (by decide) rfl ?_
                            refine hv_iinc C 3 4 [(3, .int (iz (((k : Nat) : Int) + 1))), (2, .int (iz dn)), (1, .int (iz x5)), (5, .int (iz x5)), (0, .ref a0), (4, .int (iz ((hd : Nat) : Int)))] dX12_seconds_183 rfl (by decide) rfl ?_
                            refine hv_goto C 26 dX12_seconds_186 (by decide) ?_
                            refine hv_loc [4, 2, 1, 0] [(0, .ref a0), (1, .int (iz x5)), (2, .int (iz dn)), (3, .int (iz (((k : Nat) : Int) + 1)))] rfl ?_
                            exact ih26 x5 dn (k + 1) (ua G9 k x5) (ua F9 hd (x5 + 2)) (by omega) (by omega) (by omega) (by omega) (fun q z => by have z2 := hF3 q z; unfold ua; split <;> omega) (fun j z => by unfold ua; split; (omega); (have z2 := hG9 j (by omega); omega)) (in_ua hFr (by omega)) (in_ua hGr (by omega)) (by rw [← hr9]; rw [sx9_s (by omega) zbe (by omega) rfl zsh rfl, zdu, show (σ 0 17 + σ 0 18).toNat - k - 1 = (σ 0 17 + σ 0 18).toNat - (k + 1) by omega]; first | (rw [if_pos (by omega)]; done) | (rw [if_neg (by omega)]; done))
                          · skip
                            refine hv_aload_n C 0 2 dX12_seconds_171 rfl rfl ?_
                            refine mo_geta C K 23 13 (by decide) rfl mo_hw fl_47 rfl dX12_seconds_172 ?_
                            refine hv_iload C 4 5 dX12_seconds_175 rfl ?_
                            refine mo_iald C K 13 3 hd rfl (by omega) (by omega) (by decide) dX12_seconds_177 ?_
                            refine hv_as ((ua F9 hd (x5 + 2)) hd) rfl ?_
                            refine hv_as (((x5 + 2))) (ua_at _ _ _) ?_
                            refine hv_goto C 182 dX12_seconds_178 (by decide) ?_
                            refine hv_istore_n C 2 [(2, .int (iz ((x5 + 2)))), (1, .int (iz x5)), (5, .int (iz x5)), (0, .ref a0), (3, .int (iz ((k : Nat) : Int))), (4, .int (iz ((hd : Nat) : Int)))] dX12_seconds_182 rfl (by decide) rfl ?_
                            refine hv_iinc C 3 4 [(3, .int (iz (((k : Nat) : Int) + 1))), (2, .int (iz ((x5 + 2)))), (1, .int (iz x5)), (5, .int (iz x5)), (0, .ref a0), (4, .int (iz ((hd : Nat) : Int)))] dX12_seconds_183 rfl (by decide) rfl ?_
                            refine hv_goto C 26 dX12_seconds_186 (by decide) ?_
                            refine hv_loc [4, 2, 1, 0] [(0, .ref a0), (1, .int (iz x5)), (2, .int (iz ((x5 + 2)))), (3, .int (iz (((k : Nat) : Int) + 1)))] rfl ?_
                            exact ih26 x5 ((x5 + 2)) (k + 1) (ua G9 k x5) (ua F9 hd (x5 + 2)) (by omega) (by omega) (by omega) (by omega) (fun q z => by have z2 := hF3 q z; unfold ua; split <;> omega) (fun j z => by unfold ua; split; (omega); (have z2 := hG9 j (by omega); omega)) (in_ua hFr (by omega)) (in_ua hGr (by omega)) (by rw [← hr9]; rw [sx9_s (by omega) zbe (by omega) rfl zsh rfl, zdu, show (σ 0 17 + σ 0 18).toNat - k - 1 = (σ 0 17 + σ 0 18).toNat - (k + 1) by omega]; first | (rw [if_pos (by omega)]; done) | (rw [if_neg (by omega)]; done))
                        · skip
                          refine hv_iconst C dX12_seconds_153 ?_
                          refine hv_goto C 158 dX12_seconds_154 (by decide) ?_
                          have zdu : du9 (σ 10) (σ 11) k = 3 := by unfold du9; rw [show (σ 11 k).toNat = oN by omega]; first | (rw [if_pos (by omega)]; done) | (rw [if_neg (by omega)]; done)
                          refine hv_iadd C dX12_seconds_158 ?_
                          refine mo_iast C K 13 3 hd rfl (moW_set13 _ _ _ _ _ _) (by omega) (by omega) (by decide) dX12_seconds_159 ?_
                          refine mo_st (σ2 := sA (sA σ 12 (ua G9 k x5)) 13 (ua F9 hd (x5 + 3))) (by rw [u2_sA, sA_sA]; first | done | rfl) ?_
                          refine hv_aload_n C 0 2 dX12_seconds_160 rfl rfl ?_
                          refine mo_geta C K 23 13 (by decide) rfl mo_hw fl_47 rfl dX12_seconds_161 ?_
                          refine hv_iload C 4 5 dX12_seconds_164 rfl ?_
                          refine mo_iald C K 13 3 hd rfl (by omega) (by omega) (by decide) dX12_seconds_166 ?_
                          refine hv_as ((ua F9 hd (x5 + 3)) hd) rfl ?_
                          refine hv_as (((x5 + 3))) (ua_at _ _ _) ?_
                          refine hv_iload_n C 2 3 dX12_seconds_167 rfl rfl ?_
                          refine hv_icmp_le C 181 dX12_seconds_168 (by decide) (by omega) (by omega) (fun h168 => ?_) (fun h168 => ?_)
                          · skip
                            refine hv_iload_n C 2 3 dX12_seconds_181 rfl rfl ?_
                            refine hv_istore_n C 2 [(2, .int (iz dn)), (1, .int (iz x5)), (5, .int (iz x5)), (0, .ref a0), (3, .int (iz ((k : Nat) : Int))), (4, .int (iz ((hd : Nat) : Int)))] dX12_seconds_182 rfl (by decide) rfl ?_
                            refine hv_iinc C 3 4 [(3, .int (iz (((k : Nat) : Int) + 1))), (2, .int (iz dn)), (1, .int (iz x5)), (5, .int (iz x5)), (0, .ref a0), (4, .int (iz ((hd : Nat) : Int)))] dX12_seconds_183 rfl (by decide) rfl ?_
                            refine hv_goto C 26 dX12_seconds_186 (by decide) ?_
                            refine hv_loc [4, 2, 1, 0] [(0, .ref a0), (1, .int (iz x5)), (2, .int (iz dn)), (3, .int (iz (((k : Nat) : Int) + 1)))] rfl ?_
                            exact ih26 x5 dn (k + 1) (ua G9 k x5) (ua F9 hd (x5 + 3)) (by omega) (by omega) (by omega) (by omega) (fun q z => by have z2 := hF3 q z; unfold ua; split <;> omega) (fun j z => by unfold ua; split; (omega); (have z2 := hG9 j (by omega); omega)) (in_ua hFr (by omega)) (in_ua hGr (by omega)) (by rw [← hr9]; rw [sx9_s (by omega) zbe (by omega) rfl zsh rfl, zdu, show (σ 0 17 + σ 0 18).toNat - k - 1 = (σ 0 17 + σ 0 18).toNat - (k + 1) by omega]; first | (rw [if_pos (by omega)]; done) | (rw [if_neg (by omega)]; done))
                          · skip
                            refine hv_aload_n C 0 2 dX12_seconds_171 rfl rfl ?_
                            refine mo_geta C K 23 13 (by decide) rfl mo_hw fl_47 rfl dX12_seconds_172 ?_
                            refine hv_iload C 4 5 dX12_seconds_175 rfl ?_
                            refine mo_iald C K 13 3 hd rfl (by omega) (by omega) (by decide) dX12_seconds_177 ?_
                            refine hv_as ((ua F9 hd (x5 + 3)) hd) rfl ?_
                            refine hv_as (((x5 + 3))) (ua_at _ _ _) ?_
                            refine hv_goto C 182 dX12_seconds_178 (by decide) ?_
                            refine hv_istore_n C 2 [(2, .int (iz ((x5 + 3)))), (1, .int (iz x5)), (5, .int (iz x5)), (0, .ref a0), (3, .int (iz ((k : Nat) : Int))), (4, .int (iz ((hd : Nat) : Int)))] dX12_seconds_182 rfl (by decide) rfl ?_
                            refine hv_iinc C 3 4 [(3, .int (iz (((k : Nat) : Int) + 1))), (2, .int (iz ((x5 + 3)))), (1, .int (iz x5)), (5, .int (iz x5)), (0, .ref a0), (4, .int (iz ((hd : Nat) : Int)))] dX12_seconds_183 rfl (by decide) rfl ?_
                            refine hv_goto C 26 dX12_seconds_186 (by decide) ?_
                            refine hv_loc [4, 2, 1, 0] [(0, .ref a0), (1, .int (iz x5)), (2, .int (iz ((x5 + 3)))), (3, .int (iz (((k : Nat) : Int) + 1)))] rfl ?_
                            exact ih26 x5 ((x5 + 3)) (k + 1) (ua G9 k x5) (ua F9 hd (x5 + 3)) (by omega) (by omega) (by omega) (by omega) (fun q z => by have z2 := hF3 q z; unfold ua; split <;> omega) (fun j z => by unfold ua; split; (omega); (have z2 := hG9 j (by omega); omega)) (in_ua hFr (by omega)) (in_ua hGr (by omega)) (by rw [← hr9]; rw [sx9_s (by omega) zbe (by omega) rfl zsh rfl, zdu, show (σ 0 17 + σ 0 18).toNat - k - 1 = (σ 0 17 + σ 0 18).toNat - (k + 1) by omega]; first | (rw [if_pos (by omega)]; done) | (rw [if_neg (by omega)]; done))
                      · skip
                        have zR : (sx9 (σ 1) (σ 14) (σ 9) (σ 10) (σ 11) (σ 0 17 + σ 0 18).toNat ((σ 1 13).toNat - 1) (σ 0 17 + σ 0 18).toNat 0 (σ 12) (zt (σ 13) 3) 0 0) = (-1, G9, F9) := by rw [← hr9]; exact sx9_f (by omega) (by rw [zbe]; omega)
                        refine hv_iconst C dX12_seconds_118 ?_
                        exact mo_iret (Qc := fun _ _ _ _ => True) C hr hlk (by rw [zR]) (by rw [zR]) dX12_seconds_119
                    · skip
                      refine hv_aload_n C 0 0 dX12_seconds_97 rfl rfl ?_
                      refine mo_geta C K 23 13 (by decide) rfl mo_hw fl_47 rfl dX12_seconds_98 ?_
                      refine hv_iload C 4 4 dX12_seconds_101 rfl ?_
                      refine mo_iald C K 13 3 hd rfl (by omega) (by omega) (by decide) dX12_seconds_103 ?_
                      refine hv_as (F9 hd) rfl ?_
                      refine hv_nm (fun x8 ex8 => ?_)
                      refine hv_goto C 108 dX12_seconds_104 (by decide) ?_
                      have zfm : fx9q F9 ((σ 1 13).toNat - 1) last = x8 := by unfold fx9q; rw [zsh]; first | (rw [if_pos (by omega)]; omega) | (rw [if_neg (by omega)])
                      refine mo_call [.int (iz ((k : Nat) : Int)), .int (iz x8)] [] C K (k_begins l (sA (sA σ 12 G9) 13 F9) k x8 (by repeat (first | assumption | refine rg_sA ?_ ?_ | refine in_ua ?_ (by omega) | exact fun _ => hσ _ _)) (by omega) hO hW hY (show ∀ j, j < k → 0 ≤ G9 j ∧ G9 j ≤ 100 from fun j zj => by have z := hG9 j zj; omega) (show 0 ≤ σ 0 17 ∧ 0 ≤ σ 0 18 ∧ σ 0 17 + σ 0 18 ≤ 7 from hn) (by omega)) ck_begins (by decide) rfl (Nat.le_of_ble_eq_true rfl) dX12_seconds_108 ?_
                      refine hv_as ((be9 (σ 1) (σ 14) (σ 9) (σ 10) (σ 11) G9 ((σ 0 17) + (σ 0 18)).toNat k x8)) rfl ?_
                      refine hv_nm (fun x9 ex9 => ?_)
                      have zbe : be9 (σ 1) (σ 14) (σ 9) (σ 10) (σ 11) G9 (σ 0 17 + σ 0 18).toNat k (fx9q F9 ((σ 1 13).toNat - 1) last) = x9 := by rw [zfm]; exact ex9.symm
                      have zbb : x9 = -1 ∨ (0 ≤ x9 ∧ x9 ≤ 3 * (k : Int)) := by rw [← zbe]; rcases be9_b (fr := fx9q F9 ((σ 1 13).toNat - 1) last) (A := σ 1) (Y := σ 14) (W := σ 9) (P := σ 10) (O := σ 11) (n := (σ 0 17 + σ 0 18).toNat) hG9 (by omega) (by omega) with z | z; exact Or.inl z; (right; omega)
                      refine hv_istore C 5 [(5, .int (iz x9)), (0, .ref a0), (1, .int (iz last)), (2, .int (iz dn)), (3, .int (iz ((k : Nat) : Int))), (4, .int (iz ((hd : Nat) : Int)))] dX12_seconds_111 (by decide) rfl ?_
                      refine hv_iload C 5 0 dX12_seconds_113 rfl ?_
                      refine hv_if_ge C 120 dX12_seconds_115 (by decide) (by omega) (fun h115 => ?_) (fun h115 => ?_)
                      · skip
                        refine hv_aload_n C 0 1 dX12_seconds_120 rfl rfl ?_
                        refine mo_geta C K 22 12 (by decide) rfl mo_hw fl_44 rfl dX12_seconds_121 ?_
                        refine hv_iload_n C 3 4 dX12_seconds_124 rfl rfl ?_
                        refine hv_iload C 5 0 dX12_seconds_125 rfl ?_
                        refine mo_iast C K 12 7 k rfl (moW_set12 _ _ _ _ _ _) (by omega) (by omega) (by decide) dX12_seconds_127 ?_
                        refine mo_st (σ2 := sA (sA σ 12 (ua G9 k x9)) 13 F9) (by rw [u2_sA, sA_comm (j := 13) (k := 12) (by decide), sA_sA]; first | done | rfl) ?_
                        refine hv_iload C 5 0 dX12_seconds_128 rfl ?_
                        refine hv_istore_n C 1 [(1, .int (iz x9)), (5, .int (iz x9)), (0, .ref a0), (2, .int (iz dn)), (3, .int (iz ((k : Nat) : Int))), (4, .int (iz ((hd : Nat) : Int)))] dX12_seconds_130 rfl (by decide) rfl ?_
                        refine hv_aload_n C 0 2 dX12_seconds_131 rfl rfl ?_
                        refine mo_geta C K 23 13 (by decide) rfl mo_hw fl_47 rfl dX12_seconds_132 ?_
                        refine hv_iload C 4 5 dX12_seconds_135 rfl ?_
                        refine hv_iload C 5 1 dX12_seconds_137 rfl ?_
                        refine hv_aload_n C 0 2 dX12_seconds_139 rfl rfl ?_
                        refine mo_geta C K 20 10 (by decide) rfl mo_hw fl_38 rfl dX12_seconds_140 ?_
                        refine hv_aload_n C 0 2 dX12_seconds_143 rfl rfl ?_
                        refine mo_geta C K 21 11 (by decide) rfl mo_hw fl_41 rfl dX12_seconds_144 ?_
                        have zOk := hO k (by omega)
                        refine hv_iload_n C 3 4 dX12_seconds_147 rfl rfl ?_
                        refine mo_iald C K 11 7 k rfl (by omega) (by omega) (by decide) dX12_seconds_148 ?_
                        refine hv_as (σ 11 k) rfl ?_
                        refine hv_nm (fun x10 ex10 => ?_)
                        have rx10 : inI x10 := by rw [ex10]; exact hσ 11 k
                        obtain ⟨oN, rfl⟩ : ∃ n : Nat, x10 = (n : Int) := ⟨(x10).toNat, by omega⟩
                        refine mo_zald C K 10 7 oN rfl (by omega) (by omega) (by decide) dX12_seconds_149 ?_
                        refine hv_as (σ 10 oN) rfl ?_
                        refine hv_nm (fun x11 ex11 => ?_)
                        have rx11 : inI x11 := by rw [ex11]; exact hσ 10 oN
                        refine hv_if_eq C 157 dX12_seconds_150 (by decide) (by omega) (fun h150 => ?_) (fun h150 => ?_)
                        · skip
                          refine hv_iconst C dX12_seconds_157 ?_
                          have zdu : du9 (σ 10) (σ 11) k = 2 := by unfold du9; rw [show (σ 11 k).toNat = oN by omega]; first | (rw [if_pos (by omega)]; done) | (rw [if_neg (by omega)]; done)
                          refine hv_iadd C dX12_seconds_158 ?_
                          refine mo_iast C K 13 3 hd rfl (moW_set13 _ _ _ _ _ _) (by omega) (by omega) (by decide) dX12_seconds_159 ?_
                          refine mo_st (σ2 := sA (sA σ 12 (ua G9 k x9)) 13 (ua F9 hd (x9 + 2))) (by rw [u2_sA, sA_sA]; first | done | rfl) ?_
                          refine hv_aload_n C 0 2 dX12_seconds_160 rfl rfl ?_
                          refine mo_geta C K 23 13 (by decide) rfl mo_hw fl_47 rfl dX12_seconds_161 ?_
                          refine hv_iload C 4 5 dX12_seconds_164 rfl ?_
                          refine mo_iald C K 13 3 hd rfl (by omega) (by omega) (by decide) dX12_seconds_166 ?_
                          refine hv_as ((ua F9 hd (x9 + 2)) hd) rfl ?_
                          refine hv_as (((x9 + 2))) (ua_at _ _ _) ?_
                          refine hv_iload_n C 2 3 dX12_seconds_167 rfl rfl ?_
                          refine hv_icmp_le C 181 dX12_seconds_168 (by decide) (by omega) (by omega) (fun h168 => ?_) (fun h168 => ?_)
                          · skip
                            refine hv_iload_n C 2 3 dX12_seconds_181 rfl rfl ?_
                            refine hv_istore_n C 2 [(2, .int (iz dn)), (1, .int (iz x9)), (5, .int (iz x9)), (0, .ref a0), (3, .int (iz ((k : Nat) : Int))), (4, .int (iz ((hd : Nat) : Int)))] dX12_seconds_182 rfl (by decide) rfl ?_
                            refine hv_iinc C 3 4 [(3, .int (iz (((k : Nat) : Int) + 1))), (2, .int (iz dn)), (1, .int (iz x9)), (5, .int (iz x9)), (0, .ref a0), (4, .int (iz ((hd : Nat) : Int)))] dX12_seconds_183 rfl (by decide) rfl ?_
                            refine hv_goto C 26 dX12_seconds_186 (by decide) ?_
                            refine hv_loc [4, 2, 1, 0] [(0, .ref a0), (1, .int (iz x9)), (2, .int (iz dn)), (3, .int (iz (((k : Nat) : Int) + 1)))] rfl ?_
                            exact ih26 x9 dn (k + 1) (ua G9 k x9) (ua F9 hd (x9 + 2)) (by omega) (by omega) (by omega) (by omega) (fun q z => by have z2 := hF3 q z; unfold ua; split <;> omega) (fun j z => by unfold ua; split; (omega); (have z2 := hG9 j (by omega); omega)) (in_ua hFr (by omega)) (in_ua hGr (by omega)) (by rw [← hr9]; rw [sx9_s (by omega) zbe (by omega) rfl zsh rfl, zdu, show (σ 0 17 + σ 0 18).toNat - k - 1 = (σ 0 17 + σ 0 18).toNat - (k + 1) by omega]; first | (rw [if_pos (by omega)]; done) | (rw [if_neg (by omega)]; done))
                          · skip
                            refine hv_aload_n C 0 2 dX12_seconds_171 rfl rfl ?_
                            refine mo_geta C K 23 13 (by decide) rfl mo_hw fl_47 rfl dX12_seconds_172 ?_
                            refine hv_iload C 4 5 dX12_seconds_175 rfl ?_
                            refine mo_iald C K 13 3 hd rfl (by omega) (by omega) (by decide) dX12_seconds_177 ?_
                            refine hv_as ((ua F9 hd (x9 + 2)) hd) rfl ?_
                            refine hv_as (((x9 + 2))) (ua_at _ _ _) ?_
                            refine hv_goto C 182 dX12_seconds_178 (by decide) ?_
                            refine hv_istore_n C 2 [(2, .int (iz ((x9 + 2)))), (1, .int (iz x9)), (5, .int (iz x9)), (0, .ref a0), (3, .int (iz ((k : Nat) : Int))), (4, .int (iz ((hd : Nat) : Int)))] dX12_seconds_182 rfl (by decide) rfl ?_
                            refine hv_iinc C 3 4 [(3, .int (iz (((k : Nat) : Int) + 1))), (2, .int (iz ((x9 + 2)))), (1, .int (iz x9)), (5, .int (iz x9)), (0, .ref a0), (4, .int (iz ((hd : Nat) : Int)))] dX12_seconds_183 rfl (by decide) rfl ?_
                            refine hv_goto C 26 dX12_seconds_186 (by decide) ?_
                            refine hv_loc [4, 2, 1, 0] [(0, .ref a0), (1, .int (iz x9)), (2, .int (iz ((x9 + 2)))), (3, .int (iz (((k : Nat) : Int) + 1)))] rfl ?_
                            exact ih26 x9 ((x9 + 2)) (k + 1) (ua G9 k x9) (ua F9 hd (x9 + 2)) (by omega) (by omega) (by omega) (by omega) (fun q z => by have z2 := hF3 q z; unfold ua; split <;> omega) (fun j z => by unfold ua; split; (omega); (have z2 := hG9 j (by omega); omega)) (in_ua hFr (by omega)) (in_ua hGr (by omega)) (by rw [← hr9]; rw [sx9_s (by omega) zbe (by omega) rfl zsh rfl, zdu, show (σ 0 17 + σ 0 18).toNat - k - 1 = (σ 0 17 + σ 0 18).toNat - (k + 1) by omega]; first | (rw [if_pos (by omega)]; done) | (rw [if_neg (by omega)]; done))
                        · skip
                          refine hv_iconst C dX12_seconds_153 ?_
                          refine hv_goto C 158 dX12_seconds_154 (by decide) ?_
                          have zdu : du9 (σ 10) (σ 11) k = 3 := by unfold du9; rw [show (σ 11 k).toNat = oN by omega]; first | (rw [if_pos (by omega)]; done) | (rw [if_neg (by omega)]; done)
                          refine hv_iadd C dX12_seconds_158 ?_
                          refine mo_iast C K 13 3 hd rfl (moW_set13 _ _ _ _ _ _) (by omega) (by omega) (by decide) dX12_seconds_159 ?_
                          refine mo_st (σ2 := sA (sA σ 12 (ua G9 k x9)) 13 (ua F9 hd (x9 + 3))) (by rw [u2_sA, sA_sA]; first | done | rfl) ?_
                          refine hv_aload_n C 0 2 dX12_seconds_160 rfl rfl ?_
                          refine mo_geta C K 23 13 (by decide) rfl mo_hw fl_47 rfl dX12_seconds_161 ?_
                          refine hv_iload C 4 5 dX12_seconds_164 rfl ?_
                          refine mo_iald C K 13 3 hd rfl (by omega) (by omega) (by decide) dX12_seconds_166 ?_
                          refine hv_as ((ua F9 hd (x9 + 3)) hd) rfl ?_
                          refine hv_as (((x9 + 3))) (ua_at _ _ _) ?_
                          refine hv_iload_n C 2 3 dX12_seconds_167 rfl rfl ?_
                          refine hv_icmp_le C 181 dX12_seconds_168 (by decide) (by omega) (by omega) (fun h168 => ?_) (fun h168 => ?_)
                          · skip
                            refine hv_iload_n C 2 3 dX12_seconds_181 rfl rfl ?_
                            refine hv_istore_n C 2 [(2, .int (iz dn)), (1, .int (iz x9)), (5, .int (iz x9)), (0, .ref a0), (3, .int (iz ((k : Nat) : Int))), (4, .int (iz ((hd : Nat) : Int)))] dX12_seconds_182 rfl (by decide) rfl ?_
                            refine hv_iinc C 3 4 [(3, .int (iz (((k : Nat) : Int) + 1))), (2, .int (iz dn)), (1, .int (iz x9)), (5, .int (iz x9)), (0, .ref a0), (4, .int (iz ((hd : Nat) : Int)))] dX12_seconds_183 rfl (by decide) rfl ?_
                            refine hv_goto C 26 dX12_seconds_186 (by decide) ?_
                            refine hv_loc [4, 2, 1, 0] [(0, .ref a0), (1, .int (iz x9)), (2, .int (iz dn)), (3, .int (iz (((k : Nat) : Int) + 1)))] rfl ?_
                            exact ih26 x9 dn (k + 1) (ua G9 k x9) (ua F9 hd (x9 + 3)) (by omega) (by omega) (by omega) (by omega) (fun q z => by have z2 := hF3 q z; unfold ua; split <;> omega) (fun j z => by unfold ua; split; (omega); (have z2 := hG9 j (by omega); omega)) (in_ua hFr (by omega)) (in_ua hGr (by omega)) (by rw [← hr9]; rw [sx9_s (by omega) zbe (by omega) rfl zsh rfl, zdu, show (σ 0 17 + σ 0 18).toNat - k - 1 = (σ 0 17 + σ 0 18).toNat - (k + 1) by omega]; first | (rw [if_pos (by omega)]; done) | (rw [if_neg (by omega)]; done))
                          · skip
                            refine hv_aload_n C 0 2 dX12_seconds_171 rfl rfl ?_
                            refine mo_geta C K 23 13 (by decide) rfl mo_hw fl_47 rfl dX12_seconds_172 ?_
                            refine hv_iload C 4 5 dX12_seconds_175 rfl ?_
                            refine mo_iald C K 13 3 hd rfl (by omega) (by omega) (by decide) dX12_seconds_177 ?_
                            refine hv_as ((ua F9 hd (x9 + 3)) hd) rfl ?_
                            refine hv_as (((x9 + 3))) (ua_at _ _ _) ?_
                            refine hv_goto C 182 dX12_seconds_178 (by decide) ?_
                            refine hv_istore_n C 2 [(2, .int (iz ((x9 + 3)))), (1, .int (iz x9)), (5, .int (iz x9)), (0, .ref a0), (3, .int (iz ((k : Nat) : Int))), (4, .int (iz ((hd : Nat) : Int)))] dX12_seconds_182 rfl (by decide) rfl ?_
                            refine hv_iinc C 3 4 [(3, .int (iz (((k : Nat) : Int) + 1))), (2, .int (iz ((x9 + 3)))), (1, .int (iz x9)), (5, .int (iz x9)), (0, .ref a0), (4, .int (iz ((hd : Nat) : Int)))] dX12_seconds_183 rfl (by decide) rfl ?_
                            refine hv_goto C 26 dX12_seconds_186 (by decide) ?_
                            refine hv_loc [4, 2, 1, 0] [(0, .ref a0), (1, .int (iz x9)), (2, .int (iz ((x9 + 3)))), (3, .int (iz (((k : Nat) : Int) + 1)))] rfl ?_
                            exact ih26 x9 ((x9 + 3)) (k + 1) (ua G9 k x9) (ua F9 hd (x9 + 3)) (by omega) (by omega) (by omega) (by omega) (fun q z => by have z2 := hF3 q z; unfold ua; split <;> omega) (fun j z => by unfold ua; split; (omega); (have z2 := hG9 j (by omega); omega)) (in_ua hFr (by omega)) (in_ua hGr (by omega)) (by rw [← hr9]; rw [sx9_s (by omega) zbe (by omega) rfl zsh rfl, zdu, show (σ 0 17 + σ 0 18).toNat - k - 1 = (σ 0 17 + σ 0 18).toNat - (k + 1) by omega]; first | (rw [if_pos (by omega)]; done) | (rw [if_neg (by omega)]; done))
                      · skip
                        have zR : (sx9 (σ 1) (σ 14) (σ 9) (σ 10) (σ 11) (σ 0 17 + σ 0 18).toNat ((σ 1 13).toNat - 1) (σ 0 17 + σ 0 18).toNat 0 (σ 12) (zt (σ 13) 3) 0 0) = (-1, G9, F9) := by rw [← hr9]; exact sx9_f (by omega) (by rw [zbe]; omega)
                        refine hv_iconst C dX12_seconds_118 ?_
                        exact mo_iret (Qc := fun _ _ _ _ => True) C hr hlk (by rw [zR]) (by rw [zR]) dX12_seconds_119
                  · skip
                    have zFh := hF3 h (by omega)
                    have zFd := hF3 hd (by omega)
                    refine hv_aload_n C 0 0 dX12_seconds_57 rfl rfl ?_
                    refine mo_geta C K 23 13 (by decide) rfl mo_hw fl_47 rfl dX12_seconds_58 ?_
                    refine hv_iload C 5 5 dX12_seconds_61 rfl ?_
                    refine mo_iald C K 13 3 h rfl (by omega) (by omega) (by decide) dX12_seconds_63 ?_
                    refine hv_as (F9 h) rfl ?_
                    refine hv_nm (fun x12 ex12 => ?_)
                    refine hv_aload_n C 0 0 dX12_seconds_64 rfl rfl ?_
                    refine mo_geta C K 23 13 (by decide) rfl mo_hw fl_47 rfl dX12_seconds_65 ?_
                    refine hv_iload C 4 4 dX12_seconds_68 rfl ?_
                    refine mo_iald C K 13 3 hd rfl (by omega) (by omega) (by decide) dX12_seconds_70 ?_
                    refine hv_as (F9 hd) rfl ?_
                    refine hv_nm (fun x13 ex13 => ?_)
                    refine hv_icmp_ge C 78 dX12_seconds_71 (by decide) (by omega) (by omega) (fun h71 => ?_) (fun h71 => ?_)
                    · skip
                      refine hv_iinc C 5 5 [(5, .int (iz (((h : Nat) : Int) + 1))), (0, .ref a0), (1, .int (iz last)), (2, .int (iz dn)), (3, .int (iz ((k : Nat) : Int))), (4, .int (iz ((hd : Nat) : Int)))] dX12_seconds_78 rfl (by decide) rfl ?_
                      refine hv_goto C 45 dX12_seconds_81 (by decide) ?_
                      refine hv_loc [1, 2, 3, 4, 5, 0] [(0, .ref a0), (1, .int (iz last)), (2, .int (iz dn)), (3, .int (iz ((k : Nat) : Int))), (4, .int (iz ((hd : Nat) : Int))), (5, .int (iz (((h : Nat) : Int) + 1)))] rfl ?_
                      exact ih45 hd (h + 1) (by omega) (by conv => rhs; rw [show h + 1 - 1 = (h - 1) + 1 by omega]; unfold sh9; rw [← hhd, show h - 1 + 1 = h by omega]; first | rw [if_pos (by omega)] | rw [if_neg (by omega)]) (by omega)
                    · skip
                      refine hv_iload C 5 5 dX12_seconds_74 rfl ?_
                      refine hv_istore C 4 [(4, .int (iz ((h : Nat) : Int))), (0, .ref a0), (1, .int (iz last)), (2, .int (iz dn)), (3, .int (iz ((k : Nat) : Int))), (5, .int (iz ((h : Nat) : Int)))] dX12_seconds_76 (by decide) rfl ?_
                      refine hv_iinc C 5 5 [(5, .int (iz (((h : Nat) : Int) + 1))), (4, .int (iz ((h : Nat) : Int))), (0, .ref a0), (1, .int (iz last)), (2, .int (iz dn)), (3, .int (iz ((k : Nat) : Int)))] dX12_seconds_78 rfl (by decide) rfl ?_
                      refine hv_goto C 45 dX12_seconds_81 (by decide) ?_
                      refine hv_loc [2, 3, 4, 5, 1, 0] [(0, .ref a0), (1, .int (iz last)), (2, .int (iz dn)), (3, .int (iz ((k : Nat) : Int))), (4, .int (iz ((h : Nat) : Int))), (5, .int (iz (((h : Nat) : Int) + 1)))] rfl ?_
                      exact ih45 h (h + 1) (by omega) (by conv => rhs; rw [show h + 1 - 1 = (h - 1) + 1 by omega]; unfold sh9; rw [← hhd, show h - 1 + 1 = h by omega]; first | rw [if_pos (by omega)] | rw [if_neg (by omega)]) (by omega)
              refine hv_loc [2, 3, 4, 5, 1, 0] [(0, .ref a0), (1, .int (iz last)), (2, .int (iz dn)), (3, .int (iz ((k : Nat) : Int))), (4, .int (iz 0)), (5, .int (iz 1))] rfl ?_
              exact L45 _ 0 1 (Nat.lt_succ_self _) rfl (by omega)
        refine hv_loc [3, 2, 1, 0] [(0, .ref a0), (1, .int (iz 0)), (2, .int (iz 0)), (3, .int (iz 0))] rfl ?_
        refine mo_st (σ2 := sA (sA σ 12 (σ 12)) 13 F1) ((sA_id (sA σ 13 F1) 12).symm.trans (by rw [sA_comm (j := 13) (k := 12) (by decide)]; first | done | rfl)) ?_
        exact L26 _ 0 0 0 (σ 12) F1 (Nat.lt_succ_self _) (by omega) (by omega) (by omega) (fun q z => by rw [hF1, zt_0 _ _ _ (by omega)]; omega) (fun j z => absurd z (Nat.not_lt_zero _)) (by rw [hF1]; exact zt_in (fun i => hσ 13 i) _) (fun i => hσ 12 i) (by rw [hF1, show h1 = 3 by omega]; rfl)
      · skip
        refine hv_aload_n C 0 0 dX12_seconds_7 rfl rfl ?_
        refine mo_geta C K 23 13 (by decide) rfl mo_hw fl_47 rfl dX12_seconds_8 ?_
        refine hv_iload_n C 1 1 dX12_seconds_11 rfl rfl ?_
        refine hv_iconst C dX12_seconds_12 ?_
        refine mo_iast C K 13 3 h1 rfl (moW_set13 _ _ _ _ _ _) (by omega) (by omega) (by decide) dX12_seconds_13 ?_
        refine mo_st (σ2 := sA σ 13 (ua F1 h1 0)) (by rw [u2_sA, sA_sA]; first | done | rfl) ?_
        refine hv_iinc C 1 1 [(1, .int (iz (((h1 : Nat) : Int) + 1))), (0, .ref a0)] dX12_seconds_14 rfl (by decide) rfl ?_
        refine hv_goto C 2 dX12_seconds_17 (by decide) ?_
        refine hv_loc [1, 0] [(0, .ref a0), (1, .int (iz (((h1 : Nat) : Int) + 1)))] rfl ?_
        exact ih2 (h1 + 1) (ua F1 h1 0) (by omega) (by omega) (by rw [hF1]; rfl)
  refine hv_loc [1, 0] [(0, .ref a0), (1, .int (iz 0))] rfl ?_
  refine mo_st (σ2 := sA σ 13 (σ 13)) ((sA_id σ 13).symm) ?_
  exact L2 _ 0 (σ 13) (Nat.lt_succ_self _) (by omega) rfl
