/-! when a thing may begin -/
abbrev go9 (G : Nat → Int) (k : Nat) (t : Int) (j : Nat) : Prop := j < k ∧ G j + 2 ≤ t
def di9 (W P O G : Nat → Int) (x k : Nat) (t : Int) (j : Nat) : Int := if W (O j).toNat = W x ∧ ¬ P (O j).toNat = 0 ∧ j < k then 1 else if W (O j).toNat = W x ∧ P (O j).toNat = 0 ∧ ¬ go9 G k t j then 1 else 0
def in9 (Y W P O G : Nat → Int) (x k : Nat) (t : Int) : Nat → Int
  | 0 => Y (W x).toNat
  | j + 1 => in9 Y W P O G x k t j + di9 W P O G x k t j
def so9 (W P O G : Nat → Int) (x k : Nat) (t : Int) : Nat → Int
  | 0 => 1000
  | j + 1 => if W (O j).toNat = W x ∧ P (O j).toNat = 0 ∧ j < k ∧ t < G j + 2 ∧ G j + 2 < so9 W P O G x k t j then G j + 2 else so9 W P O G x k t j
def bg9 (A Y W P O G : Nat → Int) (n x k : Nat) : Nat → Int → Int
  | 0, t => t
  | f + 1, t => if in9 Y W P O G x k t n < A (30 + 4 * (W x).toNat + 3) then t else if so9 W P O G x k t n = 1000 then -1 else bg9 A Y W P O G n x k f (so9 W P O G x k t n)
theorem bg9_s {A Y W P O G : Nat → Int} {n x k g : Nat} {t i s : Int} (hg : 0 < g) (hi : in9 Y W P O G x k t n = i) (hs : so9 W P O G x k t n = s) : bg9 A Y W P O G n x k g t = if i < A (30 + 4 * (W x).toNat + 3) then t else if s = 1000 then -1 else bg9 A Y W P O G n x k (g - 1) s := by
  obtain ⟨g1, rfl⟩ : ∃ q, g = q + 1 := ⟨g - 1, by omega⟩
  subst hi; subst hs; rfl
def bF : Nat := 1101
/-- when the k-th of an order begins, the hand being free and the one before begun at fr -/
def be9 (A Y W P O G : Nat → Int) (n k : Nat) (fr : Int) : Int := if P (O k).toNat = 0 then fr else bg9 A Y W P O G n (O k).toNat k bF fr
theorem so9_r (W P O G : Nat → Int) (x k : Nat) (t : Int) : ∀ j, so9 W P O G x k t j = 1000 ∨ (t < so9 W P O G x k t j ∧ so9 W P O G x k t j < 1000 ∧ ∃ q, q < j ∧ q < k ∧ so9 W P O G x k t j = G q + 2)
  | 0 => Or.inl rfl
  | j + 1 => by
    have h := so9_r W P O G x k t j
    unfold so9
    split
    · next c =>
      refine Or.inr ⟨c.2.2.2.1, ?_, j, by omega, c.2.2.1, rfl⟩
      rcases h with h | h
      · omega
      · omega
    · rcases h with h | h
      · exact Or.inl h
      · obtain ⟨h1, h2, q, h3, h4, h5⟩ := h
        exact Or.inr ⟨h1, h2, q, by omega, h4, h5⟩
theorem bg9_r {A Y W P O G : Nat → Int} {n x k : Nat} (hG : ∀ j, j < k → 0 ≤ G j ∧ G j ≤ 100) : ∀ (f : Nat) (t : Int), 0 ≤ t → t ≤ 102 → -1 ≤ bg9 A Y W P O G n x k f t ∧ bg9 A Y W P O G n x k f t ≤ 102
  | 0, t, h0, h1 => by unfold bg9; omega
  | f + 1, t, h0, h1 => by
    unfold bg9
    split
    · omega
    · split
      · decide
      · next c =>
        rcases so9_r W P O G x k t n with h | h
        · exact absurd h c
        · obtain ⟨h2, _, q, _, h4, h5⟩ := h
          have := hG q h4
          exact bg9_r hG f _ (by omega) (by omega)

theorem dX12_begins_0 : decode cX12_begins 0 = .ok (.aload_n 0, 1) := by decide +kernel
theorem dX12_begins_1 : decode cX12_begins 1 = .ok (.getfield 41, 3) := by decide +kernel
theorem dX12_begins_4 : decode cX12_begins 4 = .ok (.iload_n 1, 1) := by decide +kernel
theorem dX12_begins_5 : decode cX12_begins 5 = .ok (.iaload, 1) := by decide +kernel
theorem dX12_begins_6 : decode cX12_begins 6 = .ok (.istore_n 3, 1) := by decide +kernel
theorem dX12_begins_7 : decode cX12_begins 7 = .ok (.aload_n 0, 1) := by decide +kernel
theorem dX12_begins_8 : decode cX12_begins 8 = .ok (.getfield 38, 3) := by decide +kernel
theorem dX12_begins_11 : decode cX12_begins 11 = .ok (.iload_n 3, 1) := by decide +kernel
theorem dX12_begins_12 : decode cX12_begins 12 = .ok (.baload, 1) := by decide +kernel
theorem dX12_begins_13 : decode cX12_begins 13 = .ok (.ifCond .ne 5, 3) := by decide +kernel
theorem dX12_begins_16 : decode cX12_begins 16 = .ok (.iload_n 2, 1) := by decide +kernel
theorem dX12_begins_17 : decode cX12_begins 17 = .ok (.ireturn, 1) := by decide +kernel
theorem dX12_begins_18 : decode cX12_begins 18 = .ok (.iload_n 2, 1) := by decide +kernel
theorem dX12_begins_19 : decode cX12_begins 19 = .ok (.istore 4, 2) := by decide +kernel
theorem dX12_begins_21 : decode cX12_begins 21 = .ok (.iconst 1, 1) := by decide +kernel
theorem dX12_begins_22 : decode cX12_begins 22 = .ok (.istore 5, 2) := by decide +kernel
theorem dX12_begins_24 : decode cX12_begins 24 = .ok (.iload 5, 2) := by decide +kernel
theorem dX12_begins_26 : decode cX12_begins 26 = .ok (.ifCond .eq 230, 3) := by decide +kernel
theorem dX12_begins_29 : decode cX12_begins 29 = .ok (.aload_n 0, 1) := by decide +kernel
theorem dX12_begins_30 : decode cX12_begins 30 = .ok (.getfield 50, 3) := by decide +kernel
theorem dX12_begins_33 : decode cX12_begins 33 = .ok (.aload_n 0, 1) := by decide +kernel
theorem dX12_begins_34 : decode cX12_begins 34 = .ok (.getfield 35, 3) := by decide +kernel
theorem dX12_begins_37 : decode cX12_begins 37 = .ok (.iload_n 3, 1) := by decide +kernel
theorem dX12_begins_38 : decode cX12_begins 38 = .ok (.iaload, 1) := by decide +kernel
theorem dX12_begins_39 : decode cX12_begins 39 = .ok (.iaload, 1) := by decide +kernel
theorem dX12_begins_40 : decode cX12_begins 40 = .ok (.istore 6, 2) := by decide +kernel
theorem dX12_begins_42 : decode cX12_begins 42 = .ok (.sipush 1000, 3) := by decide +kernel
theorem dX12_begins_45 : decode cX12_begins 45 = .ok (.istore 7, 2) := by decide +kernel
theorem dX12_begins_47 : decode cX12_begins 47 = .ok (.iconst 0, 1) := by decide +kernel
theorem dX12_begins_48 : decode cX12_begins 48 = .ok (.istore 8, 2) := by decide +kernel
theorem dX12_begins_50 : decode cX12_begins 50 = .ok (.iload 8, 2) := by decide +kernel
theorem dX12_begins_52 : decode cX12_begins 52 = .ok (.aload_n 0, 1) := by decide +kernel
theorem dX12_begins_53 : decode cX12_begins 53 = .ok (.getfield 259, 3) := by decide +kernel
theorem dX12_begins_56 : decode cX12_begins 56 = .ok (.aload_n 0, 1) := by decide +kernel
theorem dX12_begins_57 : decode cX12_begins 57 = .ok (.getfield 262, 3) := by decide +kernel
theorem dX12_begins_60 : decode cX12_begins 60 = .ok (.iadd, 1) := by decide +kernel
theorem dX12_begins_61 : decode cX12_begins 61 = .ok (.if_icmp .ge 159, 3) := by decide +kernel
theorem dX12_begins_64 : decode cX12_begins 64 = .ok (.aload_n 0, 1) := by decide +kernel
theorem dX12_begins_65 : decode cX12_begins 65 = .ok (.getfield 41, 3) := by decide +kernel
theorem dX12_begins_68 : decode cX12_begins 68 = .ok (.iload 8, 2) := by decide +kernel
theorem dX12_begins_70 : decode cX12_begins 70 = .ok (.iaload, 1) := by decide +kernel
theorem dX12_begins_71 : decode cX12_begins 71 = .ok (.istore 9, 2) := by decide +kernel
theorem dX12_begins_73 : decode cX12_begins 73 = .ok (.aload_n 0, 1) := by decide +kernel
theorem dX12_begins_74 : decode cX12_begins 74 = .ok (.getfield 35, 3) := by decide +kernel
theorem dX12_begins_77 : decode cX12_begins 77 = .ok (.iload 9, 2) := by decide +kernel
theorem dX12_begins_79 : decode cX12_begins 79 = .ok (.iaload, 1) := by decide +kernel
theorem dX12_begins_80 : decode cX12_begins 80 = .ok (.aload_n 0, 1) := by decide +kernel
theorem dX12_begins_81 : decode cX12_begins 81 = .ok (.getfield 35, 3) := by decide +kernel
theorem dX12_begins_84 : decode cX12_begins 84 = .ok (.iload_n 3, 1) := by decide +kernel
theorem dX12_begins_85 : decode cX12_begins 85 = .ok (.iaload, 1) := by decide +kernel
theorem dX12_begins_86 : decode cX12_begins 86 = .ok (.if_icmp .eq 6, 3) := by decide +kernel
theorem dX12_begins_89 : decode cX12_begins 89 = .ok (.goto 125, 3) := by decide +kernel
theorem dX12_begins_92 : decode cX12_begins 92 = .ok (.aload_n 0, 1) := by decide +kernel
theorem dX12_begins_93 : decode cX12_begins 93 = .ok (.getfield 38, 3) := by decide +kernel
theorem dX12_begins_96 : decode cX12_begins 96 = .ok (.iload 9, 2) := by decide +kernel
theorem dX12_begins_98 : decode cX12_begins 98 = .ok (.baload, 1) := by decide +kernel
theorem dX12_begins_99 : decode cX12_begins 99 = .ok (.ifCond .ne 27, 3) := by decide +kernel
theorem dX12_begins_102 : decode cX12_begins 102 = .ok (.iload 8, 2) := by decide +kernel
theorem dX12_begins_104 : decode cX12_begins 104 = .ok (.iload_n 1, 1) := by decide +kernel
theorem dX12_begins_105 : decode cX12_begins 105 = .ok (.if_icmp .ge 21, 3) := by decide +kernel
theorem dX12_begins_108 : decode cX12_begins 108 = .ok (.aload_n 0, 1) := by decide +kernel
theorem dX12_begins_109 : decode cX12_begins 109 = .ok (.getfield 44, 3) := by decide +kernel
theorem dX12_begins_112 : decode cX12_begins 112 = .ok (.iload 8, 2) := by decide +kernel
theorem dX12_begins_114 : decode cX12_begins 114 = .ok (.iaload, 1) := by decide +kernel
theorem dX12_begins_115 : decode cX12_begins 115 = .ok (.iconst 2, 1) := by decide +kernel
theorem dX12_begins_116 : decode cX12_begins 116 = .ok (.iadd, 1) := by decide +kernel
theorem dX12_begins_117 : decode cX12_begins 117 = .ok (.iload 4, 2) := by decide +kernel
theorem dX12_begins_119 : decode cX12_begins 119 = .ok (.if_icmp .gt 7, 3) := by decide +kernel
theorem dX12_begins_122 : decode cX12_begins 122 = .ok (.iconst 1, 1) := by decide +kernel
theorem dX12_begins_123 : decode cX12_begins 123 = .ok (.goto 4, 3) := by decide +kernel
theorem dX12_begins_126 : decode cX12_begins 126 = .ok (.iconst 0, 1) := by decide +kernel
theorem dX12_begins_127 : decode cX12_begins 127 = .ok (.istore 10, 2) := by decide +kernel
theorem dX12_begins_129 : decode cX12_begins 129 = .ok (.iload 6, 2) := by decide +kernel
theorem dX12_begins_131 : decode cX12_begins 131 = .ok (.aload_n 0, 1) := by decide +kernel
theorem dX12_begins_132 : decode cX12_begins 132 = .ok (.getfield 38, 3) := by decide +kernel
theorem dX12_begins_135 : decode cX12_begins 135 = .ok (.iload 9, 2) := by decide +kernel
theorem dX12_begins_137 : decode cX12_begins 137 = .ok (.baload, 1) := by decide +kernel
theorem dX12_begins_138 : decode cX12_begins 138 = .ok (.ifCond .eq 17, 3) := by decide +kernel
theorem dX12_begins_141 : decode cX12_begins 141 = .ok (.iload 8, 2) := by decide +kernel
theorem dX12_begins_143 : decode cX12_begins 143 = .ok (.iload_n 1, 1) := by decide +kernel
theorem dX12_begins_144 : decode cX12_begins 144 = .ok (.if_icmp .ge 7, 3) := by decide +kernel
theorem dX12_begins_147 : decode cX12_begins 147 = .ok (.iconst 1, 1) := by decide +kernel
theorem dX12_begins_148 : decode cX12_begins 148 = .ok (.goto 17, 3) := by decide +kernel
theorem dX12_begins_151 : decode cX12_begins 151 = .ok (.iconst 0, 1) := by decide +kernel
theorem dX12_begins_152 : decode cX12_begins 152 = .ok (.goto 13, 3) := by decide +kernel
theorem dX12_begins_155 : decode cX12_begins 155 = .ok (.iload 10, 2) := by decide +kernel
theorem dX12_begins_157 : decode cX12_begins 157 = .ok (.ifCond .eq 7, 3) := by decide +kernel
theorem dX12_begins_160 : decode cX12_begins 160 = .ok (.iconst 0, 1) := by decide +kernel
theorem dX12_begins_161 : decode cX12_begins 161 = .ok (.goto 4, 3) := by decide +kernel
theorem dX12_begins_164 : decode cX12_begins 164 = .ok (.iconst 1, 1) := by decide +kernel
theorem dX12_begins_165 : decode cX12_begins 165 = .ok (.iadd, 1) := by decide +kernel
theorem dX12_begins_166 : decode cX12_begins 166 = .ok (.istore 6, 2) := by decide +kernel
theorem dX12_begins_168 : decode cX12_begins 168 = .ok (.aload_n 0, 1) := by decide +kernel
theorem dX12_begins_169 : decode cX12_begins 169 = .ok (.getfield 38, 3) := by decide +kernel
theorem dX12_begins_172 : decode cX12_begins 172 = .ok (.iload 9, 2) := by decide +kernel
theorem dX12_begins_174 : decode cX12_begins 174 = .ok (.baload, 1) := by decide +kernel
theorem dX12_begins_175 : decode cX12_begins 175 = .ok (.ifCond .ne 39, 3) := by decide +kernel
theorem dX12_begins_178 : decode cX12_begins 178 = .ok (.iload 8, 2) := by decide +kernel
theorem dX12_begins_180 : decode cX12_begins 180 = .ok (.iload_n 1, 1) := by decide +kernel
theorem dX12_begins_181 : decode cX12_begins 181 = .ok (.if_icmp .ge 33, 3) := by decide +kernel
theorem dX12_begins_184 : decode cX12_begins 184 = .ok (.iload 10, 2) := by decide +kernel
theorem dX12_begins_186 : decode cX12_begins 186 = .ok (.ifCond .ne 28, 3) := by decide +kernel
theorem dX12_begins_189 : decode cX12_begins 189 = .ok (.aload_n 0, 1) := by decide +kernel
theorem dX12_begins_190 : decode cX12_begins 190 = .ok (.getfield 44, 3) := by decide +kernel
theorem dX12_begins_193 : decode cX12_begins 193 = .ok (.iload 8, 2) := by decide +kernel
theorem dX12_begins_195 : decode cX12_begins 195 = .ok (.iaload, 1) := by decide +kernel
theorem dX12_begins_196 : decode cX12_begins 196 = .ok (.iconst 2, 1) := by decide +kernel
theorem dX12_begins_197 : decode cX12_begins 197 = .ok (.iadd, 1) := by decide +kernel
theorem dX12_begins_198 : decode cX12_begins 198 = .ok (.iload 7, 2) := by decide +kernel
theorem dX12_begins_200 : decode cX12_begins 200 = .ok (.if_icmp .ge 14, 3) := by decide +kernel
theorem dX12_begins_203 : decode cX12_begins 203 = .ok (.aload_n 0, 1) := by decide +kernel
theorem dX12_begins_204 : decode cX12_begins 204 = .ok (.getfield 44, 3) := by decide +kernel
theorem dX12_begins_207 : decode cX12_begins 207 = .ok (.iload 8, 2) := by decide +kernel
theorem dX12_begins_209 : decode cX12_begins 209 = .ok (.iaload, 1) := by decide +kernel
theorem dX12_begins_210 : decode cX12_begins 210 = .ok (.iconst 2, 1) := by decide +kernel
theorem dX12_begins_211 : decode cX12_begins 211 = .ok (.iadd, 1) := by decide +kernel
theorem dX12_begins_212 : decode cX12_begins 212 = .ok (.istore 7, 2) := by decide +kernel
theorem dX12_begins_214 : decode cX12_begins 214 = .ok (.iinc 8 1, 3) := by decide +kernel
theorem dX12_begins_217 : decode cX12_begins 217 = .ok (.goto (-167), 3) := by decide +kernel
theorem dX12_begins_220 : decode cX12_begins 220 = .ok (.iload 6, 2) := by decide +kernel
theorem dX12_begins_222 : decode cX12_begins 222 = .ok (.aload_n 0, 1) := by decide +kernel
theorem dX12_begins_223 : decode cX12_begins 223 = .ok (.aload_n 0, 1) := by decide +kernel
theorem dX12_begins_224 : decode cX12_begins 224 = .ok (.getfield 35, 3) := by decide +kernel
theorem dX12_begins_227 : decode cX12_begins 227 = .ok (.iload_n 3, 1) := by decide +kernel
theorem dX12_begins_228 : decode cX12_begins 228 = .ok (.iaload, 1) := by decide +kernel
theorem dX12_begins_229 : decode cX12_begins 229 = .ok (.iconst 3, 1) := by decide +kernel
theorem dX12_begins_230 : decode cX12_begins 230 = .ok (.invokevirtual 237, 3) := by decide +kernel
theorem dX12_begins_233 : decode cX12_begins 233 = .ok (.if_icmp .ge 6, 3) := by decide +kernel
theorem dX12_begins_236 : decode cX12_begins 236 = .ok (.iload 4, 2) := by decide +kernel
theorem dX12_begins_238 : decode cX12_begins 238 = .ok (.ireturn, 1) := by decide +kernel
theorem dX12_begins_239 : decode cX12_begins 239 = .ok (.iload 7, 2) := by decide +kernel
theorem dX12_begins_241 : decode cX12_begins 241 = .ok (.sipush 1000, 3) := by decide +kernel
theorem dX12_begins_244 : decode cX12_begins 244 = .ok (.if_icmp .ne 5, 3) := by decide +kernel
theorem dX12_begins_247 : decode cX12_begins 247 = .ok (.iconst (-1), 1) := by decide +kernel
theorem dX12_begins_248 : decode cX12_begins 248 = .ok (.ireturn, 1) := by decide +kernel
theorem dX12_begins_249 : decode cX12_begins 249 = .ok (.iload 7, 2) := by decide +kernel
theorem dX12_begins_251 : decode cX12_begins 251 = .ok (.istore 4, 2) := by decide +kernel
theorem dX12_begins_253 : decode cX12_begins 253 = .ok (.goto (-229), 3) := by decide +kernel
theorem dX12_begins_256 : decode cX12_begins 256 = .ok (.iconst (-1), 1) := by decide +kernel
theorem dX12_begins_257 : decode cX12_begins 257 = .ok (.ireturn, 1) := by decide +kernel
set_option maxRecDepth 100000 in
set_option maxHeartbeats 4000000 in
theorem k_begins (l : Launch) {D : va_G} {cI cZ : ClassId} {a0 : Nat} (σ : Nat → Nat → Int) (k : Nat) (fr : Int) (hσ : rg σ) (hk : k < 7) (hO : ∀ j, j < 7 → 0 ≤ σ 11 j ∧ σ 11 j ≤ 6) (hW : ∀ j, j < 7 → 0 ≤ σ 9 j ∧ σ 9 j ≤ 11) (hY : ∀ j, j < 12 → 0 ≤ σ 14 j ∧ σ 14 j ≤ 24) (hG : ∀ j, j < k → 0 ≤ σ 12 j ∧ σ 12 j ≤ 100) (hn : 0 ≤ σ 0 17 ∧ 0 ≤ σ 0 18 ∧ σ 0 17 + σ 0 18 ≤ 7) (hfr : 0 ≤ fr ∧ fr ≤ 100) : moM l D cI cZ a0 yX12_begins cX12_begins 11 (some .int) 1 22 [.ref a0, .int (iz ((k : Nat) : Int)), .int (iz fr)] σ (some (.int (iz (be9 (σ 1) (σ 14) (σ 9) (σ 10) (σ 11) (σ 12) (σ 0 17 + σ 0 18).toNat k fr)))) (σ) := by
  refine mo_start (by decide) rfl (Nat.le_of_ble_eq_true rfl) ?_
  intro p e s m args below meth c C K hr hlk
  have zOk := hO k hk
  refine hv_aload_n C 0 0 dX12_begins_0 rfl rfl ?_
  refine mo_geta C K 21 11 (by decide) rfl mo_hw fl_41 rfl dX12_begins_1 ?_
  refine hv_iload_n C 1 1 dX12_begins_4 rfl rfl ?_
  refine mo_iald C K 11 7 k rfl (by omega) (by omega) (by decide) dX12_begins_5 ?_
  refine hv_nm (fun x1 ex1 => ?_)
  have rx1 : inI x1 := by rw [ex1]; exact hσ 11 k
  obtain ⟨xN, rfl⟩ : ∃ n : Nat, x1 = (n : Int) := ⟨(x1).toNat, by omega⟩
  refine hv_istore_n C 3 [(3, .int (iz ((xN : Nat) : Int))), (0, .ref a0), (1, .int (iz ((k : Nat) : Int))), (2, .int (iz fr))] dX12_begins_6 rfl (by decide) rfl ?_
  have zx : (σ 11 k).toNat = xN := by omega
  have zWx := hW xN (by omega)
  refine hv_aload_n C 0 1 dX12_begins_7 rfl rfl ?_
  refine mo_geta C K 20 10 (by decide) rfl mo_hw fl_38 rfl dX12_begins_8 ?_
  refine hv_iload_n C 3 0 dX12_begins_11 rfl rfl ?_
  refine mo_zald C K 10 7 xN rfl (by omega) (by omega) (by decide) dX12_begins_12 ?_
  refine hv_nm (fun x2 ex2 => ?_)
  have rx2 : inI x2 := by rw [ex2]; exact hσ 10 xN
  refine hv_if_ne C 18 dX12_begins_13 (by decide) (by omega) (fun h13 => ?_) (fun h13 => ?_)
  · skip
    refine hv_iload_n C 2 3 dX12_begins_18 rfl rfl ?_
    refine hv_istore C 4 [(4, .int (iz fr)), (3, .int (iz ((xN : Nat) : Int))), (0, .ref a0), (1, .int (iz ((k : Nat) : Int))), (2, .int (iz fr))] dX12_begins_19 (by decide) rfl ?_
    refine hv_iconst C dX12_begins_21 ?_
    refine hv_istore C 5 [(5, .int (iz 1)), (4, .int (iz fr)), (3, .int (iz ((xN : Nat) : Int))), (0, .ref a0), (1, .int (iz ((k : Nat) : Int))), (2, .int (iz fr))] dX12_begins_22 (by decide) rfl ?_
    have L24 : ∀ (f : Nat) (t : Int) (g : Nat), g < f → 0 ≤ t ∧ t ≤ 1000 → 0 < g ∧ 1000 - t < (g : Int) → bg9 (σ 1) (σ 14) (σ 9) (σ 10) (σ 11) (σ 12) (σ 0 17 + σ 0 18).toNat xN k g t = bg9 (σ 1) (σ 14) (σ 9) (σ 10) (σ 11) (σ 12) (σ 0 17 + σ 0 18).toNat xN k bF fr → hvV p l e { frames := 1, cells := 0, slots := 0, locals := 22 } s m args below meth c 11 (moR a0) 0 0 (MQ below (moQ D cI cZ a0 (some (.int (iz (be9 (σ 1) (σ 14) (σ 9) (σ 10) (σ 11) (σ 12) (σ 0 17 + σ 0 18).toNat k fr)))) (σ)) args s 0 0 (moR a0)) (moI D cI cZ a0 s.heap σ) 24 [(0, .ref a0), (1, .int (iz ((k : Nat) : Int))), (2, .int (iz fr)), (3, .int (iz ((xN : Nat) : Int))), (4, .int (iz t)), (5, .int (iz 1))] [] := by
      intro f
      induction f with
      | zero => intro _ _ hm; exact absurd hm (Nat.not_lt_zero _)
      | succ f ih24 =>
        intro t g hm24 ht hg hr9
        refine hv_iload C 5 5 dX12_begins_24 rfl ?_
        refine hv_if_eq C 256 dX12_begins_26 (by decide) (by decide) (fun h => absurd h (by decide)) (fun _ => ?_)
        refine hv_aload_n C 0 0 dX12_begins_29 rfl rfl ?_
        refine mo_geta C K 24 14 (by decide) rfl mo_hw fl_50 rfl dX12_begins_30 ?_
        refine hv_aload_n C 0 0 dX12_begins_33 rfl rfl ?_
        refine mo_geta C K 19 9 (by decide) rfl mo_hw fl_35 rfl dX12_begins_34 ?_
        refine hv_iload_n C 3 3 dX12_begins_37 rfl rfl ?_
        refine mo_iald C K 9 7 xN rfl (by omega) (by omega) (by decide) dX12_begins_38 ?_
        refine hv_nm (fun x3 ex3 => ?_)
        have rx3 : inI x3 := by rw [ex3]; exact hσ 9 xN
        obtain ⟨wN, rfl⟩ : ∃ n : Nat, x3 = (n : Int) := ⟨(x3).toNat, by omega⟩
        refine mo_iald C K 14 12 wN rfl (by omega) (by omega) (by decide) dX12_begins_39 ?_
        refine hv_nm (fun x4 ex4 => ?_)
        have rx4 : inI x4 := by rw [ex4]; exact hσ 14 wN
        have zwx : (σ 9 xN).toNat = wN := by omega
        have zYx := hY wN (by omega)
        refine hv_istore C 6 [(6, .int (iz x4)), (0, .ref a0), (1, .int (iz ((k : Nat) : Int))), (2, .int (iz fr)), (3, .int (iz ((xN : Nat) : Int))), (4, .int (iz t)), (5, .int (iz 1))] dX12_begins_40 (by decide) rfl ?_
        refine hv_sipush C dX12_begins_42 (by decide) ?_
        refine hv_istore C 7 [(7, .int (iz 1000)), (6, .int (iz x4)), (0, .ref a0), (1, .int (iz ((k : Nat) : Int))), (2, .int (iz fr)), (3, .int (iz ((xN : Nat) : Int))), (4, .int (iz t)), (5, .int (iz 1))] dX12_begins_45 (by decide) rfl ?_
        refine hv_iconst C dX12_begins_47 ?_
        refine hv_istore C 8 [(8, .int (iz 0)), (7, .int (iz 1000)), (6, .int (iz x4)), (0, .ref a0), (1, .int (iz ((k : Nat) : Int))), (2, .int (iz fr)), (3, .int (iz ((xN : Nat) : Int))), (4, .int (iz t)), (5, .int (iz 1))] dX12_begins_48 (by decide) rfl ?_
        have L50 : ∀ (f : Nat) (i9 : Int) (so : Int) (j : Nat), 7 - j < f → j ≤ 7 ∧ (j : Int) ≤ σ 0 17 + σ 0 18 → 0 ≤ i9 ∧ i9 ≤ 24 + (j : Int) → (t < so ∨ so = 1000) ∧ 0 ≤ so ∧ so ≤ 1000 → i9 = in9 (σ 14) (σ 9) (σ 10) (σ 11) (σ 12) xN k t j → so = so9 (σ 9) (σ 10) (σ 11) (σ 12) xN k t j → hvV p l e { frames := 1, cells := 0, slots := 0, locals := 22 } s m args below meth c 11 (moR a0) 0 0 (MQ below (moQ D cI cZ a0 (some (.int (iz (be9 (σ 1) (σ 14) (σ 9) (σ 10) (σ 11) (σ 12) (σ 0 17 + σ 0 18).toNat k fr)))) (σ)) args s 0 0 (moR a0)) (moI D cI cZ a0 s.heap σ) 50 [(0, .ref a0), (1, .int (iz ((k : Nat) : Int))), (2, .int (iz fr)), (3, .int (iz ((xN : Nat) : Int))), (4, .int (iz t)), (5, .int (iz 1)), (6, .int (iz i9)), (7, .int (iz so)), (8, .int (iz ((j : Nat) : Int)))] [] := by
          intro f
          induction f with
          | zero => intro _ _ _ hm; exact absurd hm (Nat.not_lt_zero _)
          | succ f ih50 =>
            intro i9 so j hm50 hj hir hsr hin hso
            refine hv_iload C 8 8 dX12_begins_50 rfl ?_
            refine hv_aload_n C 0 0 dX12_begins_52 rfl rfl ?_
            refine mo_geti C K (x := σ 0 17) 17 (by decide) rfl mo_hw fl_259 rfl dX12_begins_53 ?_
            refine hv_nm (fun x5 ex5 => ?_)
            have rx5 : inI x5 := by rw [ex5]; exact hσ 0 17
            refine hv_aload_n C 0 0 dX12_begins_56 rfl rfl ?_
            refine mo_geti C K (x := σ 0 18) 18 (by decide) rfl mo_hw fl_262 rfl dX12_begins_57 ?_
            refine hv_nm (fun x6 ex6 => ?_)
            have rx6 : inI x6 := by rw [ex6]; exact hσ 0 18
            refine hv_iadd C dX12_begins_60 ?_
            refine hv_icmp_ge C 220 dX12_begins_61 (by decide) (by omega) (by omega) (fun h61 => ?_) (fun h61 => ?_)
            · skip
              have zI : in9 (σ 14) (σ 9) (σ 10) (σ 11) (σ 12) xN k t (σ 0 17 + σ 0 18).toNat = i9 := by rw [show (σ 0 17 + σ 0 18).toNat = j by omega]; exact hin.symm
              have zT : so9 (σ 9) (σ 10) (σ 11) (σ 12) xN k t (σ 0 17 + σ 0 18).toNat = so := by rw [show (σ 0 17 + σ 0 18).toNat = j by omega]; exact hso.symm
              refine hv_iload C 6 6 dX12_begins_220 rfl ?_
              refine hv_aload_n C 0 0 dX12_begins_222 rfl rfl ?_
              refine hv_aload_n C 0 0 dX12_begins_223 rfl rfl ?_
              refine mo_geta C K 19 9 (by decide) rfl mo_hw fl_35 rfl dX12_begins_224 ?_
              refine hv_iload_n C 3 3 dX12_begins_227 rfl rfl ?_
              refine mo_iald C K 9 7 xN rfl (by omega) (by omega) (by decide) dX12_begins_228 ?_
              refine hv_nm (fun x7 ex7 => ?_)
              have rx7 : inI x7 := by rw [ex7]; exact hσ 9 xN
              obtain ⟨vN, rfl⟩ : ∃ n : Nat, x7 = (n : Int) := ⟨(x7).toNat, by omega⟩
              refine hv_iconst C dX12_begins_229 ?_
              refine mo_call [.int (iz ((vN : Nat) : Int)), .int (iz 3)] [.int (iz i9)] C K (k_wireOf l σ vN 3 (by omega) (by omega)) ck_wireOf (by decide) rfl (Nat.le_of_ble_eq_true rfl) dX12_begins_230 ?_
              refine hv_nm (fun x8 ex8 => ?_)
              have rx8 : inI x8 := by rw [ex8]; exact hσ _ _
              refine hv_icmp_ge C 239 dX12_begins_233 (by decide) (by omega) (by omega) (fun h233 => ?_) (fun h233 => ?_)
              · skip
                refine hv_iload C 7 7 dX12_begins_239 rfl ?_
                refine hv_sipush C dX12_begins_241 (by decide) ?_
                refine hv_icmp_ne C 249 dX12_begins_244 (by decide) (by omega) (by omega) (fun h244 => ?_) (fun h244 => ?_)
                · skip
                  refine hv_iload C 7 7 dX12_begins_249 rfl ?_
                  refine hv_istore C 4 [(4, .int (iz so)), (0, .ref a0), (1, .int (iz ((k : Nat) : Int))), (2, .int (iz fr)), (3, .int (iz ((xN : Nat) : Int))), (5, .int (iz 1)), (6, .int (iz i9)), (7, .int (iz so)), (8, .int (iz ((j : Nat) : Int)))] dX12_begins_251 (by decide) rfl ?_
                  refine hv_goto C 24 dX12_begins_253 (by decide) ?_
                  refine hv_loc [1, 2, 3, 4, 0, 5] [(0, .ref a0), (1, .int (iz ((k : Nat) : Int))), (2, .int (iz fr)), (3, .int (iz ((xN : Nat) : Int))), (4, .int (iz so)), (5, .int (iz 1))] rfl ?_
                  exact ih24 so (g - 1) (by omega) (by omega) (by omega) (by rw [← hr9, bg9_s hg.1 zI zT, if_neg (by rw [show (σ 9 xN).toNat = vN by omega]; omega), if_neg (by omega)])
                · skip
                  have zv : be9 (σ 1) (σ 14) (σ 9) (σ 10) (σ 11) (σ 12) (σ 0 17 + σ 0 18).toNat k fr = -1 := by unfold be9; rw [zx, if_neg (by omega), ← hr9, bg9_s hg.1 zI zT, if_neg (by rw [show (σ 9 xN).toNat = vN by omega]; omega), if_pos (by omega)]
                  refine hv_iconst C dX12_begins_247 ?_
                  exact mo_iret (Qc := fun _ _ _ _ => True) C hr hlk (by first | exact zv.symm | (unfold be9; rw [zx, if_pos (by omega)])) rfl dX12_begins_248
              · skip
                have zv : be9 (σ 1) (σ 14) (σ 9) (σ 10) (σ 11) (σ 12) (σ 0 17 + σ 0 18).toNat k fr = t := by unfold be9; rw [zx, if_neg (by omega), ← hr9, bg9_s hg.1 zI zT, if_pos (by rw [show (σ 9 xN).toNat = vN by omega]; omega)]
                refine hv_iload C 4 4 dX12_begins_236 rfl ?_
                exact mo_iret (Qc := fun _ _ _ _ => True) C hr hlk (by first | exact zv.symm | (unfold be9; rw [zx, if_pos (by omega)])) rfl dX12_begins_238
            · skip
              have zOj := hO j (by omega)
              refine hv_aload_n C 0 0 dX12_begins_64 rfl rfl ?_
              refine mo_geta C K 21 11 (by decide) rfl mo_hw fl_41 rfl dX12_begins_65 ?_
              refine hv_iload C 8 8 dX12_begins_68 rfl ?_
              refine mo_iald C K 11 7 j rfl (by omega) (by omega) (by decide) dX12_begins_70 ?_
              refine hv_nm (fun x9 ex9 => ?_)
              have rx9 : inI x9 := by rw [ex9]; exact hσ 11 j
              obtain ⟨yN, rfl⟩ : ∃ n : Nat, x9 = (n : Int) := ⟨(x9).toNat, by omega⟩
              refine hv_istore C 9 [(9, .int (iz ((yN : Nat) : Int))), (0, .ref a0), (1, .int (iz ((k : Nat) : Int))), (2, .int (iz fr)), (3, .int (iz ((xN : Nat) : Int))), (4, .int (iz t)), (5, .int (iz 1)), (6, .int (iz i9)), (7, .int (iz so)), (8, .int (iz ((j : Nat) : Int)))] dX12_begins_71 (by decide) rfl ?_
              have zy : (σ 11 j).toNat = yN := by omega
              refine hv_aload_n C 0 1 dX12_begins_73 rfl rfl ?_
              refine mo_geta C K 19 9 (by decide) rfl mo_hw fl_35 rfl dX12_begins_74 ?_
              refine hv_iload C 9 0 dX12_begins_77 rfl ?_
              refine mo_iald C K 9 7 yN rfl (by omega) (by omega) (by decide) dX12_begins_79 ?_
              refine hv_nm (fun x10 ex10 => ?_)
              have rx10 : inI x10 := by rw [ex10]; exact hσ 9 yN
              refine hv_aload_n C 0 1 dX12_begins_80 rfl rfl ?_
              refine mo_geta C K 19 9 (by decide) rfl mo_hw fl_35 rfl dX12_begins_81 ?_
              refine hv_iload_n C 3 4 dX12_begins_84 rfl rfl ?_
              refine mo_iald C K 9 7 xN rfl (by omega) (by omega) (by decide) dX12_begins_85 ?_
              refine hv_nm (fun x11 ex11 => ?_)
              have rx11 : inI x11 := by rw [ex11]; exact hσ 9 xN
              refine hv_icmp_eq C 92 dX12_begins_86 (by decide) (by omega) (by omega) (fun h86 => ?_) (fun h86 => ?_)
              · skip
                refine hv_aload_n C 0 1 dX12_begins_92 rfl rfl ?_
                refine mo_geta C K 20 10 (by decide) rfl mo_hw fl_38 rfl dX12_begins_93 ?_
                refine hv_iload C 9 0 dX12_begins_96 rfl ?_
                refine mo_zald C K 10 7 yN rfl (by omega) (by omega) (by decide) dX12_begins_98 ?_
                refine hv_nm (fun x12 ex12 => ?_)
                have rx12 : inI x12 := by rw [ex12]; exact hσ 10 yN
                refine hv_if_ne C 126 dX12_begins_99 (by decide) (by omega) (fun h99 => ?_) (fun h99 => ?_)
                · skip
                  refine hv_iconst C dX12_begins_126 ?_
                  refine hv_istore C 10 [(10, .int (iz 0)), (9, .int (iz ((yN : Nat) : Int))), (0, .ref a0), (1, .int (iz ((k : Nat) : Int))), (2, .int (iz fr)), (3, .int (iz ((xN : Nat) : Int))), (4, .int (iz t)), (5, .int (iz 1)), (6, .int (iz i9)), (7, .int (iz so)), (8, .int (iz ((j : Nat) : Int)))] dX12_begins_127 (by decide) rfl ?_
                  refine hv_iload C 6 8 dX12_begins_129 rfl ?_
                  refine hv_aload_n C 0 2 dX12_begins_131 rfl rfl ?_
                  refine mo_geta C K 20 10 (by decide) rfl mo_hw fl_38 rfl dX12_begins_132 ?_
                  refine hv_iload C 9 1 dX12_begins_135 rfl ?_
                  refine mo_zald C K 10 7 yN rfl (by omega) (by omega) (by decide) dX12_begins_137 ?_
                  refine hv_nm (fun x13 ex13 => ?_)
                  have rx13 : inI x13 := by rw [ex13]; exact hσ 10 yN
                  refine hv_if_eq C 155 dX12_begins_138 (by decide) (by omega) (fun h138 => ?_) (fun h138 => ?_)
                  · skip
                    refine hv_iload C 10 0 dX12_begins_155 rfl ?_
                    refine hv_if_eq C 164 dX12_begins_157 (by decide) (by decide) (fun _ => ?_) (fun h => absurd h (by decide))
                    refine hv_iconst C dX12_begins_164 ?_
                    refine hv_iadd C dX12_begins_165 ?_
                    refine hv_istore C 6 [(6, .int (iz (i9 + 1))), (10, .int (iz 0)), (9, .int (iz ((yN : Nat) : Int))), (0, .ref a0), (1, .int (iz ((k : Nat) : Int))), (2, .int (iz fr)), (3, .int (iz ((xN : Nat) : Int))), (4, .int (iz t)), (5, .int (iz 1)), (7, .int (iz so)), (8, .int (iz ((j : Nat) : Int)))] dX12_begins_166 (by decide) rfl ?_
                    refine hv_aload_n C 0 3 dX12_begins_168 rfl rfl ?_
                    refine mo_geta C K 20 10 (by decide) rfl mo_hw fl_38 rfl dX12_begins_169 ?_
                    refine hv_iload C 9 2 dX12_begins_172 rfl ?_
                    refine mo_zald C K 10 7 yN rfl (by omega) (by omega) (by decide) dX12_begins_174 ?_
                    refine hv_nm (fun x14 ex14 => ?_)
                    have rx14 : inI x14 := by rw [ex14]; exact hσ 10 yN
                    refine hv_if_ne C 214 dX12_begins_175 (by decide) (by omega) (fun h175 => ?_) (fun h175 => ?_)
                    · skip
                      refine hv_iinc C 8 10 [(8, .int (iz (((j : Nat) : Int) + 1))), (6, .int (iz (i9 + 1))), (10, .int (iz 0)), (9, .int (iz ((yN : Nat) : Int))), (0, .ref a0), (1, .int (iz ((k : Nat) : Int))), (2, .int (iz fr)), (3, .int (iz ((xN : Nat) : Int))), (4, .int (iz t)), (5, .int (iz 1)), (7, .int (iz so))] dX12_begins_214 rfl (by decide) rfl ?_
                      refine hv_goto C 50 dX12_begins_217 (by decide) ?_
                      refine hv_loc [4, 5, 6, 7, 8, 9, 1, 10, 0] [(0, .ref a0), (1, .int (iz ((k : Nat) : Int))), (2, .int (iz fr)), (3, .int (iz ((xN : Nat) : Int))), (4, .int (iz t)), (5, .int (iz 1)), (6, .int (iz (i9 + 1))), (7, .int (iz so)), (8, .int (iz (((j : Nat) : Int) + 1)))] rfl ?_
                      exact ih50 (i9 + 1) so (j + 1) (by omega) (by omega) (by omega) (by omega) (by rw [hin]; rw [in9]; first | (rw [show di9 (σ 9) (σ 10) (σ 11) (σ 12) xN k t j = 1 by (unfold di9; rw [zy]; first | (rw [if_pos (by omega)]; done) | (rw [if_neg (by omega), if_pos (by omega)]; done))]; done) | (rw [show di9 (σ 9) (σ 10) (σ 11) (σ 12) xN k t j = 0 by (unfold di9; rw [zy, if_neg (by omega), if_neg (by omega)])]; first | done | omega)) (by rw [so9, zy]; first | (rw [if_pos (by omega)]; omega) | (rw [if_neg (by omega)]; omega))
                    · skip
                      refine hv_iload C 8 10 dX12_begins_178 rfl ?_
                      refine hv_iload_n C 1 4 dX12_begins_180 rfl rfl ?_
                      refine hv_icmp_ge C 214 dX12_begins_181 (by decide) (by omega) (by omega) (fun h181 => ?_) (fun h181 => ?_)
                      · skip
                        refine hv_iinc C 8 10 [(8, .int (iz (((j : Nat) : Int) + 1))), (6, .int (iz (i9 + 1))), (10, .int (iz 0)), (9, .int (iz ((yN : Nat) : Int))), (0, .ref a0), (1, .int (iz ((k : Nat) : Int))), (2, .int (iz fr)), (3, .int (iz ((xN : Nat) : Int))), (4, .int (iz t)), (5, .int (iz 1)), (7, .int (iz so))] dX12_begins_214 rfl (by decide) rfl ?_
                        refine hv_goto C 50 dX12_begins_217 (by decide) ?_
                        refine hv_loc [4, 5, 6, 7, 8, 9, 1, 10, 0] [(0, .ref a0), (1, .int (iz ((k : Nat) : Int))), (2, .int (iz fr)), (3, .int (iz ((xN : Nat) : Int))), (4, .int (iz t)), (5, .int (iz 1)), (6, .int (iz (i9 + 1))), (7, .int (iz so)), (8, .int (iz (((j : Nat) : Int) + 1)))] rfl ?_
                        exact ih50 (i9 + 1) so (j + 1) (by omega) (by omega) (by omega) (by omega) (by rw [hin]; rw [in9]; first | (rw [show di9 (σ 9) (σ 10) (σ 11) (σ 12) xN k t j = 1 by (unfold di9; rw [zy]; first | (rw [if_pos (by omega)]; done) | (rw [if_neg (by omega), if_pos (by omega)]; done))]; done) | (rw [show di9 (σ 9) (σ 10) (σ 11) (σ 12) xN k t j = 0 by (unfold di9; rw [zy, if_neg (by omega), if_neg (by omega)])]; first | done | omega)) (by rw [so9, zy]; first | (rw [if_pos (by omega)]; omega) | (rw [if_neg (by omega)]; omega))
                      · skip
                        refine hv_iload C 10 1 dX12_begins_184 rfl ?_
                        refine hv_if_ne C 214 dX12_begins_186 (by decide) (by decide) (fun h => absurd h (by decide)) (fun _ => ?_)
                        have zGj := hG j (by omega)
                        refine hv_aload_n C 0 3 dX12_begins_189 rfl rfl ?_
                        refine mo_geta C K 22 12 (by decide) rfl mo_hw fl_44 rfl dX12_begins_190 ?_
                        refine hv_iload C 8 10 dX12_begins_193 rfl ?_
                        refine mo_iald C K 12 7 j rfl (by omega) (by omega) (by decide) dX12_begins_195 ?_
                        refine hv_nm (fun x15 ex15 => ?_)
                        have rx15 : inI x15 := by rw [ex15]; exact hσ 12 j
                        refine hv_iconst C dX12_begins_196 ?_
                        refine hv_iadd C dX12_begins_197 ?_
                        refine hv_iload C 7 9 dX12_begins_198 rfl ?_
                        refine hv_icmp_ge C 214 dX12_begins_200 (by decide) (by omega) (by omega) (fun h200 => ?_) (fun h200 => ?_)
                        · skip
                          refine hv_iinc C 8 10 [(8, .int (iz (((j : Nat) : Int) + 1))), (6, .int (iz (i9 + 1))), (10, .int (iz 0)), (9, .int (iz ((yN : Nat) : Int))), (0, .ref a0), (1, .int (iz ((k : Nat) : Int))), (2, .int (iz fr)), (3, .int (iz ((xN : Nat) : Int))), (4, .int (iz t)), (5, .int (iz 1)), (7, .int (iz so))] dX12_begins_214 rfl (by decide) rfl ?_
                          refine hv_goto C 50 dX12_begins_217 (by decide) ?_
                          refine hv_loc [4, 5, 6, 7, 8, 9, 1, 10, 0] [(0, .ref a0), (1, .int (iz ((k : Nat) : Int))), (2, .int (iz fr)), (3, .int (iz ((xN : Nat) : Int))), (4, .int (iz t)), (5, .int (iz 1)), (6, .int (iz (i9 + 1))), (7, .int (iz so)), (8, .int (iz (((j : Nat) : Int) + 1)))] rfl ?_
                          exact ih50 (i9 + 1) so (j + 1) (by omega) (by omega) (by omega) (by omega) (by rw [hin]; rw [in9]; first | (rw [show di9 (σ 9) (σ 10) (σ 11) (σ 12) xN k t j = 1 by (unfold di9; rw [zy]; first | (rw [if_pos (by omega)]; done) | (rw [if_neg (by omega), if_pos (by omega)]; done))]; done) | (rw [show di9 (σ 9) (σ 10) (σ 11) (σ 12) xN k t j = 0 by (unfold di9; rw [zy, if_neg (by omega), if_neg (by omega)])]; first | done | omega)) (by rw [so9, zy]; first | (rw [if_pos (by omega)]; omega) | (rw [if_neg (by omega)]; omega))
                        · skip
                          have zGj := hG j (by omega)
                          refine hv_aload_n C 0 3 dX12_begins_203 rfl rfl ?_
                          refine mo_geta C K 22 12 (by decide) rfl mo_hw fl_44 rfl dX12_begins_204 ?_
                          refine hv_iload C 8 10 dX12_begins_207 rfl ?_
                          refine mo_iald C K 12 7 j rfl (by omega) (by omega) (by decide) dX12_begins_209 ?_
                          refine hv_nm (fun x16 ex16 => ?_)
                          have rx16 : inI x16 := by rw [ex16]; exact hσ 12 j
                          refine hv_iconst C dX12_begins_210 ?_
                          refine hv_iadd C dX12_begins_211 ?_
                          refine hv_istore C 7 [(7, .int (iz (x16 + 2))), (6, .int (iz (i9 + 1))), (10, .int (iz 0)), (9, .int (iz ((yN : Nat) : Int))), (0, .ref a0), (1, .int (iz ((k : Nat) : Int))), (2, .int (iz fr)), (3, .int (iz ((xN : Nat) : Int))), (4, .int (iz t)), (5, .int (iz 1)), (8, .int (iz ((j : Nat) : Int)))] dX12_begins_212 (by decide) rfl ?_
                          refine hv_iinc C 8 10 [(8, .int (iz (((j : Nat) : Int) + 1))), (7, .int (iz (x16 + 2))), (6, .int (iz (i9 + 1))), (10, .int (iz 0)), (9, .int (iz ((yN : Nat) : Int))), (0, .ref a0), (1, .int (iz ((k : Nat) : Int))), (2, .int (iz fr)), (3, .int (iz ((xN : Nat) : Int))), (4, .int (iz t)), (5, .int (iz 1))] dX12_begins_214 rfl (by decide) rfl ?_
                          refine hv_goto C 50 dX12_begins_217 (by decide) ?_
                          refine hv_loc [5, 6, 7, 8, 9, 10, 2, 1, 0] [(0, .ref a0), (1, .int (iz ((k : Nat) : Int))), (2, .int (iz fr)), (3, .int (iz ((xN : Nat) : Int))), (4, .int (iz t)), (5, .int (iz 1)), (6, .int (iz (i9 + 1))), (7, .int (iz (x16 + 2))), (8, .int (iz (((j : Nat) : Int) + 1)))] rfl ?_
                          exact ih50 (i9 + 1) (x16 + 2) (j + 1) (by omega) (by omega) (by omega) (by omega) (by rw [hin]; rw [in9]; first | (rw [show di9 (σ 9) (σ 10) (σ 11) (σ 12) xN k t j = 1 by (unfold di9; rw [zy]; first | (rw [if_pos (by omega)]; done) | (rw [if_neg (by omega), if_pos (by omega)]; done))]; done) | (rw [show di9 (σ 9) (σ 10) (σ 11) (σ 12) xN k t j = 0 by (unfold di9; rw [zy, if_neg (by omega), if_neg (by omega)])]; first | done | omega)) (by rw [so9, zy]; first | (rw [if_pos (by omega)]; omega) | (rw [if_neg (by omega)]; omega))
                  · skip
                    refine hv_iload C 8 10 dX12_begins_141 rfl ?_
                    refine hv_iload_n C 1 3 dX12_begins_143 rfl rfl ?_
                    refine hv_icmp_ge C 151 dX12_begins_144 (by decide) (by omega) (by omega) (fun h144 => ?_) (fun h144 => ?_)
                    · skip
                      refine hv_iconst C dX12_begins_151 ?_
                      refine hv_goto C 165 dX12_begins_152 (by decide) ?_
                      refine hv_iadd C dX12_begins_165 ?_
                      refine hv_istore C 6 [(6, .int (iz (i9 + 0))), (10, .int (iz 0)), (9, .int (iz ((yN : Nat) : Int))), (0, .ref a0), (1, .int (iz ((k : Nat) : Int))), (2, .int (iz fr)), (3, .int (iz ((xN : Nat) : Int))), (4, .int (iz t)), (5, .int (iz 1)), (7, .int (iz so)), (8, .int (iz ((j : Nat) : Int)))] dX12_begins_166 (by decide) rfl ?_
                      refine hv_aload_n C 0 3 dX12_begins_168 rfl rfl ?_
                      refine mo_geta C K 20 10 (by decide) rfl mo_hw fl_38 rfl dX12_begins_169 ?_
                      refine hv_iload C 9 2 dX12_begins_172 rfl ?_
                      refine mo_zald C K 10 7 yN rfl (by omega) (by omega) (by decide) dX12_begins_174 ?_
                      refine hv_nm (fun x17 ex17 => ?_)
                      have rx17 : inI x17 := by rw [ex17]; exact hσ 10 yN
                      refine hv_if_ne C 214 dX12_begins_175 (by decide) (by omega) (fun h175 => ?_) (fun h175 => ?_)
                      · skip
                        refine hv_iinc C 8 10 [(8, .int (iz (((j : Nat) : Int) + 1))), (6, .int (iz (i9 + 0))), (10, .int (iz 0)), (9, .int (iz ((yN : Nat) : Int))), (0, .ref a0), (1, .int (iz ((k : Nat) : Int))), (2, .int (iz fr)), (3, .int (iz ((xN : Nat) : Int))), (4, .int (iz t)), (5, .int (iz 1)), (7, .int (iz so))] dX12_begins_214 rfl (by decide) rfl ?_
                        refine hv_goto C 50 dX12_begins_217 (by decide) ?_
                        refine hv_loc [4, 5, 6, 7, 8, 9, 1, 10, 0] [(0, .ref a0), (1, .int (iz ((k : Nat) : Int))), (2, .int (iz fr)), (3, .int (iz ((xN : Nat) : Int))), (4, .int (iz t)), (5, .int (iz 1)), (6, .int (iz (i9 + 0))), (7, .int (iz so)), (8, .int (iz (((j : Nat) : Int) + 1)))] rfl ?_
                        exact ih50 (i9 + 0) so (j + 1) (by omega) (by omega) (by omega) (by omega) (by rw [hin]; rw [in9]; first | (rw [show di9 (σ 9) (σ 10) (σ 11) (σ 12) xN k t j = 1 by (unfold di9; rw [zy]; first | (rw [if_pos (by omega)]; done) | (rw [if_neg (by omega), if_pos (by omega)]; done))]; done) | (rw [show di9 (σ 9) (σ 10) (σ 11) (σ 12) xN k t j = 0 by (unfold di9; rw [zy, if_neg (by omega), if_neg (by omega)])]; first | done | omega)) (by rw [so9, zy]; first | (rw [if_pos (by omega)]; omega) | (rw [if_neg (by omega)]; omega))
                      · skip
                        refine hv_iload C 8 10 dX12_begins_178 rfl ?_
                        refine hv_iload_n C 1 4 dX12_begins_180 rfl rfl ?_
                        refine hv_icmp_ge C 214 dX12_begins_181 (by decide) (by omega) (by omega) (fun h181 => ?_) (fun h181 => ?_)
                        · skip
                          refine hv_iinc C 8 10 [(8, .int (iz (((j : Nat) : Int) + 1))), (6, .int (iz (i9 + 0))), (10, .int (iz 0)), (9, .int (iz ((yN : Nat) : Int))), (0, .ref a0), (1, .int (iz ((k : Nat) : Int))), (2, .int (iz fr)), (3, .int (iz ((xN : Nat) : Int))), (4, .int (iz t)), (5, .int (iz 1)), (7, .int (iz so))] dX12_begins_214 rfl (by decide) rfl ?_
                          refine hv_goto C 50 dX12_begins_217 (by decide) ?_
                          refine hv_loc [4, 5, 6, 7, 8, 9, 1, 10, 0] [(0, .ref a0), (1, .int (iz ((k : Nat) : Int))), (2, .int (iz fr)), (3, .int (iz ((xN : Nat) : Int))), (4, .int (iz t)), (5, .int (iz 1)), (6, .int (iz (i9 + 0))), (7, .int (iz so)), (8, .int (iz (((j : Nat) : Int) + 1)))] rfl ?_
                          exact ih50 (i9 + 0) so (j + 1) (by omega) (by omega) (by omega) (by omega) (by rw [hin]; rw [in9]; first | (rw [show di9 (σ 9) (σ 10) (σ 11) (σ 12) xN k t j = 1 by (unfold di9; rw [zy]; first | (rw [if_pos (by omega)]; done) | (rw [if_neg (by omega), if_pos (by omega)]; done))]; done) | (rw [show di9 (σ 9) (σ 10) (σ 11) (σ 12) xN k t j = 0 by (unfold di9; rw [zy, if_neg (by omega), if_neg (by omega)])]; first | done | omega)) (by rw [so9, zy]; first | (rw [if_pos (by omega)]; omega) | (rw [if_neg (by omega)]; omega))
                        · skip
                          refine hv_iload C 10 1 dX12_begins_184 rfl ?_
                          refine hv_if_ne C 214 dX12_begins_186 (by decide) (by decide) (fun h => absurd h (by decide)) (fun _ => ?_)
                          have zGj := hG j (by omega)
                          refine hv_aload_n C 0 3 dX12_begins_189 rfl rfl ?_
                          refine mo_geta C K 22 12 (by decide) rfl mo_hw fl_44 rfl dX12_begins_190 ?_
                          refine hv_iload C 8 10 dX12_begins_193 rfl ?_
                          refine mo_iald C K 12 7 j rfl (by omega) (by omega) (by decide) dX12_begins_195 ?_
                          refine hv_nm (fun x18 ex18 => ?_)
                          have rx18 : inI x18 := by rw [ex18]; exact hσ 12 j
                          refine hv_iconst C dX12_begins_196 ?_
                          refine hv_iadd C dX12_begins_197 ?_
                          refine hv_iload C 7 9 dX12_begins_198 rfl ?_
                          refine hv_icmp_ge C 214 dX12_begins_200 (by decide) (by omega) (by omega) (fun h200 => ?_) (fun h200 => ?_)
                          · skip
                            refine hv_iinc C 8 10 [(8, .int (iz (((j : Nat) : Int) + 1))), (6, .int (iz (i9 + 0))), (10, .int (iz 0)), (9, .int (iz ((yN : Nat) : Int))), (0, .ref a0), (1, .int (iz ((k : Nat) : Int))), (2, .int (iz fr)), (3, .int (iz ((xN : Nat) : Int))), (4, .int (iz t)), (5, .int (iz 1)), (7, .int (iz so))] dX12_begins_214 rfl (by decide) rfl ?_
                            refine hv_goto C 50 dX12_begins_217 (by decide) ?_
                            refine hv_loc [4, 5, 6, 7, 8, 9, 1, 10, 0] [(0, .ref a0), (1, .int (iz ((k : Nat) : Int))), (2, .int (iz fr)), (3, .int (iz ((xN : Nat) : Int))), (4, .int (iz t)), (5, .int (iz 1)), (6, .int (iz (i9 + 0))), (7, .int (iz so)), (8, .int (iz (((j : Nat) : Int) + 1)))] rfl ?_
                            exact ih50 (i9 + 0) so (j + 1) (by omega) (by omega) (by omega) (by omega) (by rw [hin]; rw [in9]; first | (rw [show di9 (σ 9) (σ 10) (σ 11) (σ 12) xN k t j = 1 by (unfold di9; rw [zy]; first | (rw [if_pos (by omega)]; done) | (rw [if_neg (by omega), if_pos (by omega)]; done))]; done) | (rw [show di9 (σ 9) (σ 10) (σ 11) (σ 12) xN k t j = 0 by (unfold di9; rw [zy, if_neg (by omega), if_neg (by omega)])]; first | done | omega)) (by rw [so9, zy]; first | (rw [if_pos (by omega)]; omega) | (rw [if_neg (by omega)]; omega))
                          · skip
                            have zGj := hG j (by omega)
                            refine hv_aload_n C 0 3 dX12_begins_203 rfl rfl ?_
                            refine mo_geta C K 22 12 (by decide) rfl mo_hw fl_44 rfl dX12_begins_204 ?_
                            refine hv_iload C 8 10 dX12_begins_207 rfl ?_
                            refine mo_iald C K 12 7 j rfl (by omega) (by omega) (by decide) dX12_begins_209 ?_
                            refine hv_nm (fun x19 ex19 => ?_)
                            have rx19 : inI x19 := by rw [ex19]; exact hσ 12 j
                            refine hv_iconst C dX12_begins_210 ?_
                            refine hv_iadd C dX12_begins_211 ?_
                            refine hv_istore C 7 [(7, .int (iz (x19 + 2))), (6, .int (iz (i9 + 0))), (10, .int (iz 0)), (9, .int (iz ((yN : Nat) : Int))), (0, .ref a0), (1, .int (iz ((k : Nat) : Int))), (2, .int (iz fr)), (3, .int (iz ((xN : Nat) : Int))), (4, .int (iz t)), (5, .int (iz 1)), (8, .int (iz ((j : Nat) : Int)))] dX12_begins_212 (by decide) rfl ?_
                            refine hv_iinc C 8 10 [(8, .int (iz (((j : Nat) : Int) + 1))), (7, .int (iz (x19 + 2))), (6, .int (iz (i9 + 0))), (10, .int (iz 0)), (9, .int (iz ((yN : Nat) : Int))), (0, .ref a0), (1, .int (iz ((k : Nat) : Int))), (2, .int (iz fr)), (3, .int (iz ((xN : Nat) : Int))), (4, .int (iz t)), (5, .int (iz 1))] dX12_begins_214 rfl (by decide) rfl ?_
                            refine hv_goto C 50 dX12_begins_217 (by decide) ?_
                            refine hv_loc [5, 6, 7, 8, 9, 10, 2, 1, 0] [(0, .ref a0), (1, .int (iz ((k : Nat) : Int))), (2, .int (iz fr)), (3, .int (iz ((xN : Nat) : Int))), (4, .int (iz t)), (5, .int (iz 1)), (6, .int (iz (i9 + 0))), (7, .int (iz (x19 + 2))), (8, .int (iz (((j : Nat) : Int) + 1)))] rfl ?_
                            exact ih50 (i9 + 0) (x19 + 2) (j + 1) (by omega) (by omega) (by omega) (by omega) (by rw [hin]; rw [in9]; first | (rw [show di9 (σ 9) (σ 10) (σ 11) (σ 12) xN k t j = 1 by (unfold di9; rw [zy]; first | (rw [if_pos (by omega)]; done) | (rw [if_neg (by omega), if_pos (by omega)]; done))]; done) | (rw [show di9 (σ 9) (σ 10) (σ 11) (σ 12) xN k t j = 0 by (unfold di9; rw [zy, if_neg (by omega), if_neg (by omega)])]; first | done | omega)) (by rw [so9, zy]; first | (rw [if_pos (by omega)]; omega) | (rw [if_neg (by omega)]; omega))
                    · skip
                      refine hv_iconst C dX12_begins_147 ?_
                      refine hv_goto C 165 dX12_begins_148 (by decide) ?_
                      refine hv_iadd C dX12_begins_165 ?_
                      refine hv_istore C 6 [(6, .int (iz (i9 + 1))), (10, .int (iz 0)), (9, .int (iz ((yN : Nat) : Int))), (0, .ref a0), (1, .int (iz ((k : Nat) : Int))), (2, .int (iz fr)), (3, .int (iz ((xN : Nat) : Int))), (4, .int (iz t)), (5, .int (iz 1)), (7, .int (iz so)), (8, .int (iz ((j : Nat) : Int)))] dX12_begins_166 (by decide) rfl ?_
                      refine hv_aload_n C 0 3 dX12_begins_168 rfl rfl ?_
                      refine mo_geta C K 20 10 (by decide) rfl mo_hw fl_38 rfl dX12_begins_169 ?_
                      refine hv_iload C 9 2 dX12_begins_172 rfl ?_
                      refine mo_zald C K 10 7 yN rfl (by omega) (by omega) (by decide) dX12_begins_174 ?_
                      refine hv_nm (fun x20 ex20 => ?_)
                      have rx20 : inI x20 := by rw [ex20]; exact hσ 10 yN
                      refine hv_if_ne C 214 dX12_begins_175 (by decide) (by omega) (fun h175 => ?_) (fun h175 => ?_)
                      · skip
                        refine hv_iinc C 8 10 [(8, .int (iz (((j : Nat) : Int) + 1))), (6, .int (iz (i9 + 1))), (10, .int (iz 0)), (9, .int (iz ((yN : Nat) : Int))), (0, .ref a0), (1, .int (iz ((k : Nat) : Int))), (2, .int (iz fr)), (3, .int (iz ((xN : Nat) : Int))), (4, .int (iz t)), (5, .int (iz 1)), (7, .int (iz so))] dX12_begins_214 rfl (by decide) rfl ?_
                        refine hv_goto C 50 dX12_begins_217 (by decide) ?_
                        refine hv_loc [4, 5, 6, 7, 8, 9, 1, 10, 0] [(0, .ref a0), (1, .int (iz ((k : Nat) : Int))), (2, .int (iz fr)), (3, .int (iz ((xN : Nat) : Int))), (4, .int (iz t)), (5, .int (iz 1)), (6, .int (iz (i9 + 1))), (7, .int (iz so)), (8, .int (iz (((j : Nat) : Int) + 1)))] rfl ?_
                        exact ih50 (i9 + 1) so (j + 1) (by omega) (by omega) (by omega) (by omega) (by rw [hin]; rw [in9]; first | (rw [show di9 (σ 9) (σ 10) (σ 11) (σ 12) xN k t j = 1 by (unfold di9; rw [zy]; first | (rw [if_pos (by omega)]; done) | (rw [if_neg (by omega), if_pos (by omega)]; done))]; done) | (rw [show di9 (σ 9) (σ 10) (σ 11) (σ 12) xN k t j = 0 by (unfold di9; rw [zy, if_neg (by omega), if_neg (by omega)])]; first | done | omega)) (by rw [so9, zy]; first | (rw [if_pos (by omega)]; omega) | (rw [if_neg (by omega)]; omega))
                      · skip
                        refine hv_iload C 8 10 dX12_begins_178 rfl ?_
                        refine hv_iload_n C 1 4 dX12_begins_180 rfl rfl ?_
                        refine hv_icmp_ge C 214 dX12_begins_181 (by decide) (by omega) (by omega) (fun h181 => ?_) (fun h181 => ?_)
                        · skip
                          refine hv_iinc C 8 10 [(8, .int (iz (((j : Nat) : Int) + 1))), (6, .int (iz (i9 + 1))), (10, .int (iz 0)), (9, .int (iz ((yN : Nat) : Int))), (0, .ref a0), (1, .int (iz ((k : Nat) : Int))), (2, .int (iz fr)), (3, .int (iz ((xN : Nat) : Int))), (4, .int (iz t)), (5, .int (iz 1)), (7, .int (iz so))] dX12_begins_214 rfl (by decide) rfl ?_
                          refine hv_goto C 50 dX12_begins_217 (by decide) ?_
                          refine hv_loc [4, 5, 6, 7, 8, 9, 1, 10, 0] [(0, .ref a0), (1, .int (iz ((k : Nat) : Int))), (2, .int (iz fr)), (3, .int (iz ((xN : Nat) : Int))), (4, .int (iz t)), (5, .int (iz 1)), (6, .int (iz (i9 + 1))), (7, .int (iz so)), (8, .int (iz (((j : Nat) : Int) + 1)))] rfl ?_
                          exact ih50 (i9 + 1) so (j + 1) (by omega) (by omega) (by omega) (by omega) (by rw [hin]; rw [in9]; first | (rw [show di9 (σ 9) (σ 10) (σ 11) (σ 12) xN k t j = 1 by (unfold di9; rw [zy]; first | (rw [if_pos (by omega)]; done) | (rw [if_neg (by omega), if_pos (by omega)]; done))]; done) | (rw [show di9 (σ 9) (σ 10) (σ 11) (σ 12) xN k t j = 0 by (unfold di9; rw [zy, if_neg (by omega), if_neg (by omega)])]; first | done | omega)) (by rw [so9, zy]; first | (rw [if_pos (by omega)]; omega) | (rw [if_neg (by omega)]; omega))
                        · skip
                          refine hv_iload C 10 1 dX12_begins_184 rfl ?_
                          refine hv_if_ne C 214 dX12_begins_186 (by decide) (by decide) (fun h => absurd h (by decide)) (fun _ => ?_)
                          have zGj := hG j (by omega)
                          refine hv_aload_n C 0 3 dX12_begins_189 rfl rfl ?_
                          refine mo_geta C K 22 12 (by decide) rfl mo_hw fl_44 rfl dX12_begins_190 ?_
                          refine hv_iload C 8 10 dX12_begins_193 rfl ?_
                          refine mo_iald C K 12 7 j rfl (by omega) (by omega) (by decide) dX12_begins_195 ?_
                          refine hv_nm (fun x21 ex21 => ?_)
                          have rx21 : inI x21 := by rw [ex21]; exact hσ 12 j
                          refine hv_iconst C dX12_begins_196 ?_
                          refine hv_iadd C dX12_begins_197 ?_
                          refine hv_iload C 7 9 dX12_begins_198 rfl ?_
                          refine hv_icmp_ge C 214 dX12_begins_200 (by decide) (by omega) (by omega) (fun h200 => ?_) (fun h200 => ?_)
                          · skip
                            refine hv_iinc C 8 10 [(8, .int (iz (((j : Nat) : Int) + 1))), (6, .int (iz (i9 + 1))), (10, .int (iz 0)), (9, .int (iz ((yN : Nat) : Int))), (0, .ref a0), (1, .int (iz ((k : Nat) : Int))), (2, .int (iz fr)), (3, .int (iz ((xN : Nat) : Int))), (4, .int (iz t)), (5, .int (iz 1)), (7, .int (iz so))] dX12_begins_214 rfl (by decide) rfl ?_
                            refine hv_goto C 50 dX12_begins_217 (by decide) ?_
                            refine hv_loc [4, 5, 6, 7, 8, 9, 1, 10, 0] [(0, .ref a0), (1, .int (iz ((k : Nat) : Int))), (2, .int (iz fr)), (3, .int (iz ((xN : Nat) : Int))), (4, .int (iz t)), (5, .int (iz 1)), (6, .int (iz (i9 + 1))), (7, .int (iz so)), (8, .int (iz (((j : Nat) : Int) + 1)))] rfl ?_
                            exact ih50 (i9 + 1) so (j + 1) (by omega) (by omega) (by omega) (by omega) (by rw [hin]; rw [in9]; first | (rw [show di9 (σ 9) (σ 10) (σ 11) (σ 12) xN k t j = 1 by (unfold di9; rw [zy]; first | (rw [if_pos (by omega)]; done) | (rw [if_neg (by omega), if_pos (by omega)]; done))]; done) | (rw [show di9 (σ 9) (σ 10) (σ 11) (σ 12) xN k t j = 0 by (unfold di9; rw [zy, if_neg (by omega), if_neg (by omega)])]; first | done | omega)) (by rw [so9, zy]; first | (rw [if_pos (by omega)]; omega) | (rw [if_neg (by omega)]; omega))
                          · skip
                            have zGj := hG j (by omega)
                            refine hv_aload_n C 0 3 dX12_begins_203 rfl rfl ?_
                            refine mo_geta C K 22 12 (by decide) rfl mo_hw fl_44 rfl dX12_begins_204 ?_
                            refine hv_iload C 8 10 dX12_begins_207 rfl ?_
                            refine mo_iald C K 12 7 j rfl (by omega) (by omega) (by decide) dX12_begins_209 ?_
                            refine hv_nm (fun x22 ex22 => ?_)
                            have rx22 : inI x22 := by rw [ex22]; exact hσ 12 j
                            refine hv_iconst C dX12_begins_210 ?_
                            refine hv_iadd C dX12_begins_211 ?_
                            refine hv_istore C 7 [(7, .int (iz (x22 + 2))), (6, .int (iz (i9 + 1))), (10, .int (iz 0)), (9, .int (iz ((yN : Nat) : Int))), (0, .ref a0), (1, .int (iz ((k : Nat) : Int))), (2, .int (iz fr)), (3, .int (iz ((xN : Nat) : Int))), (4, .int (iz t)), (5, .int (iz 1)), (8, .int (iz ((j : Nat) : Int)))] dX12_begins_212 (by decide) rfl ?_
                            refine hv_iinc C 8 10 [(8, .int (iz (((j : Nat) : Int) + 1))), (7, .int (iz (x22 + 2))), (6, .int (iz (i9 + 1))), (10, .int (iz 0)), (9, .int (iz ((yN : Nat) : Int))), (0, .ref a0), (1, .int (iz ((k : Nat) : Int))), (2, .int (iz fr)), (3, .int (iz ((xN : Nat) : Int))), (4, .int (iz t)), (5, .int (iz 1))] dX12_begins_214 rfl (by decide) rfl ?_
                            refine hv_goto C 50 dX12_begins_217 (by decide) ?_
                            refine hv_loc [5, 6, 7, 8, 9, 10, 2, 1, 0] [(0, .ref a0), (1, .int (iz ((k : Nat) : Int))), (2, .int (iz fr)), (3, .int (iz ((xN : Nat) : Int))), (4, .int (iz t)), (5, .int (iz 1)), (6, .int (iz (i9 + 1))), (7, .int (iz (x22 + 2))), (8, .int (iz (((j : Nat) : Int) + 1)))] rfl ?_
                            exact ih50 (i9 + 1) (x22 + 2) (j + 1) (by omega) (by omega) (by omega) (by omega) (by rw [hin]; rw [in9]; first | (rw [show di9 (σ 9) (σ 10) (σ 11) (σ 12) xN k t j = 1 by (unfold di9; rw [zy]; first | (rw [if_pos (by omega)]; done) | (rw [if_neg (by omega), if_pos (by omega)]; done))]; done) | (rw [show di9 (σ 9) (σ 10) (σ 11) (σ 12) xN k t j = 0 by (unfold di9; rw [zy, if_neg (by omega), if_neg (by omega)])]; first | done | omega)) (by rw [so9, zy]; first | (rw [if_pos (by omega)]; omega) | (rw [if_neg (by omega)]; omega))
                · skip
                  refine hv_iload C 8 9 dX12_begins_102 rfl ?_
                  refine hv_iload_n C 1 2 dX12_begins_104 rfl rfl ?_
                  refine hv_icmp_ge C 126 dX12_begins_105 (by decide) (by omega) (by omega) (fun h105 => ?_) (fun h105 => ?_)
                  · skip
                    refine hv_iconst C dX12_begins_126 ?_
                    refine hv_istore C 10 [(10, .int (iz 0)), (9, .int (iz ((yN : Nat) : Int))), (0, .ref a0), (1, .int (iz ((k : Nat) : Int))), (2, .int (iz fr)), (3, .int (iz ((xN : Nat) : Int))), (4, .int (iz t)), (5, .int (iz 1)), (6, .int (iz i9)), (7, .int (iz so)), (8, .int (iz ((j : Nat) : Int)))] dX12_begins_127 (by decide) rfl ?_
                    refine hv_iload C 6 8 dX12_begins_129 rfl ?_
                    refine hv_aload_n C 0 2 dX12_begins_131 rfl rfl ?_
                    refine mo_geta C K 20 10 (by decide) rfl mo_hw fl_38 rfl dX12_begins_132 ?_
                    refine hv_iload C 9 1 dX12_begins_135 rfl ?_
                    refine mo_zald C K 10 7 yN rfl (by omega) (by omega) (by decide) dX12_begins_137 ?_
                    refine hv_nm (fun x23 ex23 => ?_)
                    have rx23 : inI x23 := by rw [ex23]; exact hσ 10 yN
                    refine hv_if_eq C 155 dX12_begins_138 (by decide) (by omega) (fun h138 => ?_) (fun h138 => ?_)
                    · skip
                      refine hv_iload C 10 0 dX12_begins_155 rfl ?_
                      refine hv_if_eq C 164 dX12_begins_157 (by decide) (by decide) (fun _ => ?_) (fun h => absurd h (by decide))
                      refine hv_iconst C dX12_begins_164 ?_
                      refine hv_iadd C dX12_begins_165 ?_
                      refine hv_istore C 6 [(6, .int (iz (i9 + 1))), (10, .int (iz 0)), (9, .int (iz ((yN : Nat) : Int))), (0, .ref a0), (1, .int (iz ((k : Nat) : Int))), (2, .int (iz fr)), (3, .int (iz ((xN : Nat) : Int))), (4, .int (iz t)), (5, .int (iz 1)), (7, .int (iz so)), (8, .int (iz ((j : Nat) : Int)))] dX12_begins_166 (by decide) rfl ?_
                      refine hv_aload_n C 0 3 dX12_begins_168 rfl rfl ?_
                      refine mo_geta C K 20 10 (by decide) rfl mo_hw fl_38 rfl dX12_begins_169 ?_
                      refine hv_iload C 9 2 dX12_begins_172 rfl ?_
                      refine mo_zald C K 10 7 yN rfl (by omega) (by omega) (by decide) dX12_begins_174 ?_
                      refine hv_nm (fun x24 ex24 => ?_)
                      have rx24 : inI x24 := by rw [ex24]; exact hσ 10 yN
                      refine hv_if_ne C 214 dX12_begins_175 (by decide) (by omega) (fun h175 => ?_) (fun h175 => ?_)
                      · skip
                        refine hv_iinc C 8 10 [(8, .int (iz (((j : Nat) : Int) + 1))), (6, .int (iz (i9 + 1))), (10, .int (iz 0)), (9, .int (iz ((yN : Nat) : Int))), (0, .ref a0), (1, .int (iz ((k : Nat) : Int))), (2, .int (iz fr)), (3, .int (iz ((xN : Nat) : Int))), (4, .int (iz t)), (5, .int (iz 1)), (7, .int (iz so))] dX12_begins_214 rfl (by decide) rfl ?_
                        refine hv_goto C 50 dX12_begins_217 (by decide) ?_
                        refine hv_loc [4, 5, 6, 7, 8, 9, 1, 10, 0] [(0, .ref a0), (1, .int (iz ((k : Nat) : Int))), (2, .int (iz fr)), (3, .int (iz ((xN : Nat) : Int))), (4, .int (iz t)), (5, .int (iz 1)), (6, .int (iz (i9 + 1))), (7, .int (iz so)), (8, .int (iz (((j : Nat) : Int) + 1)))] rfl ?_
                        exact ih50 (i9 + 1) so (j + 1) (by omega) (by omega) (by omega) (by omega) (by rw [hin]; rw [in9]; first | (rw [show di9 (σ 9) (σ 10) (σ 11) (σ 12) xN k t j = 1 by (unfold di9; rw [zy]; first | (rw [if_pos (by omega)]; done) | (rw [if_neg (by omega), if_pos (by omega)]; done))]; done) | (rw [show di9 (σ 9) (σ 10) (σ 11) (σ 12) xN k t j = 0 by (unfold di9; rw [zy, if_neg (by omega), if_neg (by omega)])]; first | done | omega)) (by rw [so9, zy]; first | (rw [if_pos (by omega)]; omega) | (rw [if_neg (by omega)]; omega))
                      · skip
                        refine hv_iload C 8 10 dX12_begins_178 rfl ?_
                        refine hv_iload_n C 1 4 dX12_begins_180 rfl rfl ?_
                        refine hv_icmp_ge C 214 dX12_begins_181 (by decide) (by omega) (by omega) (fun h181 => ?_) (fun h181 => ?_)
                        · skip
                          refine hv_iinc C 8 10 [(8, .int (iz (((j : Nat) : Int) + 1))), (6, .int (iz (i9 + 1))), (10, .int (iz 0)), (9, .int (iz ((yN : Nat) : Int))), (0, .ref a0), (1, .int (iz ((k : Nat) : Int))), (2, .int (iz fr)), (3, .int (iz ((xN : Nat) : Int))), (4, .int (iz t)), (5, .int (iz 1)), (7, .int (iz so))] dX12_begins_214 rfl (by decide) rfl ?_
                          refine hv_goto C 50 dX12_begins_217 (by decide) ?_
                          refine hv_loc [4, 5, 6, 7, 8, 9, 1, 10, 0] [(0, .ref a0), (1, .int (iz ((k : Nat) : Int))), (2, .int (iz fr)), (3, .int (iz ((xN : Nat) : Int))), (4, .int (iz t)), (5, .int (iz 1)), (6, .int (iz (i9 + 1))), (7, .int (iz so)), (8, .int (iz (((j : Nat) : Int) + 1)))] rfl ?_
                          exact ih50 (i9 + 1) so (j + 1) (by omega) (by omega) (by omega) (by omega) (by rw [hin]; rw [in9]; first | (rw [show di9 (σ 9) (σ 10) (σ 11) (σ 12) xN k t j = 1 by (unfold di9; rw [zy]; first | (rw [if_pos (by omega)]; done) | (rw [if_neg (by omega), if_pos (by omega)]; done))]; done) | (rw [show di9 (σ 9) (σ 10) (σ 11) (σ 12) xN k t j = 0 by (unfold di9; rw [zy, if_neg (by omega), if_neg (by omega)])]; first | done | omega)) (by rw [so9, zy]; first | (rw [if_pos (by omega)]; omega) | (rw [if_neg (by omega)]; omega))
                        · skip
                          refine hv_iload C 10 1 dX12_begins_184 rfl ?_
                          refine hv_if_ne C 214 dX12_begins_186 (by decide) (by decide) (fun h => absurd h (by decide)) (fun _ => ?_)
                          have zGj := hG j (by omega)
                          refine hv_aload_n C 0 3 dX12_begins_189 rfl rfl ?_
                          refine mo_geta C K 22 12 (by decide) rfl mo_hw fl_44 rfl dX12_begins_190 ?_
                          refine hv_iload C 8 10 dX12_begins_193 rfl ?_
                          refine mo_iald C K 12 7 j rfl (by omega) (by omega) (by decide) dX12_begins_195 ?_
                          refine hv_nm (fun x25 ex25 => ?_)
                          have rx25 : inI x25 := by rw [ex25]; exact hσ 12 j
                          refine hv_iconst C dX12_begins_196 ?_
                          refine hv_iadd C dX12_begins_197 ?_
                          refine hv_iload C 7 9 dX12_begins_198 rfl ?_
                          refine hv_icmp_ge C 214 dX12_begins_200 (by decide) (by omega) (by omega) (fun h200 => ?_) (fun h200 => ?_)
                          · skip
                            refine hv_iinc C 8 10 [(8, .int (iz (((j : Nat) : Int) + 1))), (6, .int (iz (i9 + 1))), (10, .int (iz 0)), (9, .int (iz ((yN : Nat) : Int))), (0, .ref a0), (1, .int (iz ((k : Nat) : Int))), (2, .int (iz fr)), (3, .int (iz ((xN : Nat) : Int))), (4, .int (iz t)), (5, .int (iz 1)), (7, .int (iz so))] dX12_begins_214 rfl (by decide) rfl ?_
                            refine hv_goto C 50 dX12_begins_217 (by decide) ?_
                            refine hv_loc [4, 5, 6, 7, 8, 9, 1, 10, 0] [(0, .ref a0), (1, .int (iz ((k : Nat) : Int))), (2, .int (iz fr)), (3, .int (iz ((xN : Nat) : Int))), (4, .int (iz t)), (5, .int (iz 1)), (6, .int (iz (i9 + 1))), (7, .int (iz so)), (8, .int (iz (((j : Nat) : Int) + 1)))] rfl ?_
                            exact ih50 (i9 + 1) so (j + 1) (by omega) (by omega) (by omega) (by omega) (by rw [hin]; rw [in9]; first | (rw [show di9 (σ 9) (σ 10) (σ 11) (σ 12) xN k t j = 1 by (unfold di9; rw [zy]; first | (rw [if_pos (by omega)]; done) | (rw [if_neg (by omega), if_pos (by omega)]; done))]; done) | (rw [show di9 (σ 9) (σ 10) (σ 11) (σ 12) xN k t j = 0 by (unfold di9; rw [zy, if_neg (by omega), if_neg (by omega)])]; first | done | omega)) (by rw [so9, zy]; first | (rw [if_pos (by omega)]; omega) | (rw [if_neg (by omega)]; omega))
                          · skip
                            have zGj := hG j (by omega)
                            refine hv_aload_n C 0 3 dX12_begins_203 rfl rfl ?_
                            refine mo_geta C K 22 12 (by decide) rfl mo_hw fl_44 rfl dX12_begins_204 ?_
                            refine hv_iload C 8 10 dX12_begins_207 rfl ?_
                            refine mo_iald C K 12 7 j rfl (by omega) (by omega) (by decide) dX12_begins_209 ?_
                            refine hv_nm (fun x26 ex26 => ?_)
                            have rx26 : inI x26 := by rw [ex26]; exact hσ 12 j
                            refine hv_iconst C dX12_begins_210 ?_
                            refine hv_iadd C dX12_begins_211 ?_
                            refine hv_istore C 7 [(7, .int (iz (x26 + 2))), (6, .int (iz (i9 + 1))), (10, .int (iz 0)), (9, .int (iz ((yN : Nat) : Int))), (0, .ref a0), (1, .int (iz ((k : Nat) : Int))), (2, .int (iz fr)), (3, .int (iz ((xN : Nat) : Int))), (4, .int (iz t)), (5, .int (iz 1)), (8, .int (iz ((j : Nat) : Int)))] dX12_begins_212 (by decide) rfl ?_
                            refine hv_iinc C 8 10 [(8, .int (iz (((j : Nat) : Int) + 1))), (7, .int (iz (x26 + 2))), (6, .int (iz (i9 + 1))), (10, .int (iz 0)), (9, .int (iz ((yN : Nat) : Int))), (0, .ref a0), (1, .int (iz ((k : Nat) : Int))), (2, .int (iz fr)), (3, .int (iz ((xN : Nat) : Int))), (4, .int (iz t)), (5, .int (iz 1))] dX12_begins_214 rfl (by decide) rfl ?_
                            refine hv_goto C 50 dX12_begins_217 (by decide) ?_
                            refine hv_loc [5, 6, 7, 8, 9, 10, 2, 1, 0] [(0, .ref a0), (1, .int (iz ((k : Nat) : Int))), (2, .int (iz fr)), (3, .int (iz ((xN : Nat) : Int))), (4, .int (iz t)), (5, .int (iz 1)), (6, .int (iz (i9 + 1))), (7, .int (iz (x26 + 2))), (8, .int (iz (((j : Nat) : Int) + 1)))] rfl ?_
                            exact ih50 (i9 + 1) (x26 + 2) (j + 1) (by omega) (by omega) (by omega) (by omega) (by rw [hin]; rw [in9]; first | (rw [show di9 (σ 9) (σ 10) (σ 11) (σ 12) xN k t j = 1 by (unfold di9; rw [zy]; first | (rw [if_pos (by omega)]; done) | (rw [if_neg (by omega), if_pos (by omega)]; done))]; done) | (rw [show di9 (σ 9) (σ 10) (σ 11) (σ 12) xN k t j = 0 by (unfold di9; rw [zy, if_neg (by omega), if_neg (by omega)])]; first | done | omega)) (by rw [so9, zy]; first | (rw [if_pos (by omega)]; omega) | (rw [if_neg (by omega)]; omega))
                    · skip
                      refine hv_iload C 8 10 dX12_begins_141 rfl ?_
                      refine hv_iload_n C 1 3 dX12_begins_143 rfl rfl ?_
                      refine hv_icmp_ge C 151 dX12_begins_144 (by decide) (by omega) (by omega) (fun h144 => ?_) (fun h144 => ?_)
                      · skip
                        refine hv_iconst C dX12_begins_151 ?_
                        refine hv_goto C 165 dX12_begins_152 (by decide) ?_
                        refine hv_iadd C dX12_begins_165 ?_
                        refine hv_istore C 6 [(6, .int (iz (i9 + 0))), (10, .int (iz 0)), (9, .int (iz ((yN : Nat) : Int))), (0, .ref a0), (1, .int (iz ((k : Nat) : Int))), (2, .int (iz fr)), (3, .int (iz ((xN : Nat) : Int))), (4, .int (iz t)), (5, .int (iz 1)), (7, .int (iz so)), (8, .int (iz ((j : Nat) : Int)))] dX12_begins_166 (by decide) rfl ?_
                        refine hv_aload_n C 0 3 dX12_begins_168 rfl rfl ?_
                        refine mo_geta C K 20 10 (by decide) rfl mo_hw fl_38 rfl dX12_begins_169 ?_
                        refine hv_iload C 9 2 dX12_begins_172 rfl ?_
                        refine mo_zald C K 10 7 yN rfl (by omega) (by omega) (by decide) dX12_begins_174 ?_
                        refine hv_nm (fun x27 ex27 => ?_)
                        have rx27 : inI x27 := by rw [ex27]; exact hσ 10 yN
                        refine hv_if_ne C 214 dX12_begins_175 (by decide) (by omega) (fun h175 => ?_) (fun h175 => ?_)
                        · skip
                          refine hv_iinc C 8 10 [(8, .int (iz (((j : Nat) : Int) + 1))), (6, .int (iz (i9 + 0))), (10, .int (iz 0)), (9, .int (iz ((yN : Nat) : Int))), (0, .ref a0), (1, .int (iz ((k : Nat) : Int))), (2, .int (iz fr)), (3, .int (iz ((xN : Nat) : Int))), (4, .int (iz t)), (5, .int (iz 1)), (7, .int (iz so))] dX12_begins_214 rfl (by decide) rfl ?_
                          refine hv_goto C 50 dX12_begins_217 (by decide) ?_
                          refine hv_loc [4, 5, 6, 7, 8, 9, 1, 10, 0] [(0, .ref a0), (1, .int (iz ((k : Nat) : Int))), (2, .int (iz fr)), (3, .int (iz ((xN : Nat) : Int))), (4, .int (iz t)), (5, .int (iz 1)), (6, .int (iz (i9 + 0))), (7, .int (iz so)), (8, .int (iz (((j : Nat) : Int) + 1)))] rfl ?_
                          exact ih50 (i9 + 0) so (j + 1) (by omega) (by omega) (by omega) (by omega) (by rw [hin]; rw [in9]; first | (rw [show di9 (σ 9) (σ 10) (σ 11) (σ 12) xN k t j = 1 by (unfold di9; rw [zy]; first | (rw [if_pos (by omega)]; done) | (rw [if_neg (by omega), if_pos (by omega)]; done))]; done) | (rw [show di9 (σ 9) (σ 10) (σ 11) (σ 12) xN k t j = 0 by (unfold di9; rw [zy, if_neg (by omega), if_neg (by omega)])]; first | done | omega)) (by rw [so9, zy]; first | (rw [if_pos (by omega)]; omega) | (rw [if_neg (by omega)]; omega))
                        · skip
                          refine hv_iload C 8 10 dX12_begins_178 rfl ?_
                          refine hv_iload_n C 1 4 dX12_begins_180 rfl rfl ?_
                          refine hv_icmp_ge C 214 dX12_begins_181 (by decide) (by omega) (by omega) (fun h181 => ?_) (fun h181 => ?_)
                          · skip
                            refine hv_iinc C 8 10 [(8, .int (iz (((j : Nat) : Int) + 1))), (6, .int (iz (i9 + 0))), (10, .int (iz 0)), (9, .int (iz ((yN : Nat) : Int))), (0, .ref a0), (1, .int (iz ((k : Nat) : Int))), (2, .int (iz fr)), (3, .int (iz ((xN : Nat) : Int))), (4, .int (iz t)), (5, .int (iz 1)), (7, .int (iz so))] dX12_begins_214 rfl (by decide) rfl ?_
                            refine hv_goto C 50 dX12_begins_217 (by decide) ?_
                            refine hv_loc [4, 5, 6, 7, 8, 9, 1, 10, 0] [(0, .ref a0), (1, .int (iz ((k : Nat) : Int))), (2, .int (iz fr)), (3, .int (iz ((xN : Nat) : Int))), (4, .int (iz t)), (5, .int (iz 1)), (6, .int (iz (i9 + 0))), (7, .int (iz so)), (8, .int (iz (((j : Nat) : Int) + 1)))] rfl ?_
                            exact ih50 (i9 + 0) so (j + 1) (by omega) (by omega) (by omega) (by omega) (by rw [hin]; rw [in9]; first | (rw [show di9 (σ 9) (σ 10) (σ 11) (σ 12) xN k t j = 1 by (unfold di9; rw [zy]; first | (rw [if_pos (by omega)]; done) | (rw [if_neg (by omega), if_pos (by omega)]; done))]; done) | (rw [show di9 (σ 9) (σ 10) (σ 11) (σ 12) xN k t j = 0 by (unfold di9; rw [zy, if_neg (by omega), if_neg (by omega)])]; first | done | omega)) (by rw [so9, zy]; first | (rw [if_pos (by omega)]; omega) | (rw [if_neg (by omega)]; omega))
                          · skip
                            refine hv_iload C 10 1 dX12_begins_184 rfl ?_
                            refine hv_if_ne C 214 dX12_begins_186 (by decide) (by decide) (fun h => absurd h (by decide)) (fun _ => ?_)
                            have zGj := hG j (by omega)
                            refine hv_aload_n C 0 3 dX12_begins_189 rfl rfl ?_
                            refine mo_geta C K 22 12 (by decide) rfl mo_hw fl_44 rfl dX12_begins_190 ?_
                            refine hv_iload C 8 10 dX12_begins_193 rfl ?_
                            refine mo_iald C K 12 7 j rfl (by omega) (by omega) (by decide) dX12_begins_195 ?_
                            refine hv_nm (fun x28 ex28 => ?_)
                            have rx28 : inI x28 := by rw [ex28]; exact hσ 12 j
                            refine hv_iconst C dX12_begins_196 ?_
                            refine hv_iadd C dX12_begins_197 ?_
                            refine hv_iload C 7 9 dX12_begins_198 rfl ?_
                            refine hv_icmp_ge C 214 dX12_begins_200 (by decide) (by omega) (by omega) (fun h200 => ?_) (fun h200 => ?_)
                            · skip
                              refine hv_iinc C 8 10 [(8, .int (iz (((j : Nat) : Int) + 1))), (6, .int (iz (i9 + 0))), (10, .int (iz 0)), (9, .int (iz ((yN : Nat) : Int))), (0, .ref a0), (1, .int (iz ((k : Nat) : Int))), (2, .int (iz fr)), (3, .int (iz ((xN : Nat) : Int))), (4, .int (iz t)), (5, .int (iz 1)), (7, .int (iz so))] dX12_begins_214 rfl (by decide) rfl ?_
                              refine hv_goto C 50 dX12_begins_217 (by decide) ?_
                              refine hv_loc [4, 5, 6, 7, 8, 9, 1, 10, 0] [(0, .ref a0), (1, .int (iz ((k : Nat) : Int))), (2, .int (iz fr)), (3, .int (iz ((xN : Nat) : Int))), (4, .int (iz t)), (5, .int (iz 1)), (6, .int (iz (i9 + 0))), (7, .int (iz so)), (8, .int (iz (((j : Nat) : Int) + 1)))] rfl ?_
                              exact ih50 (i9 + 0) so (j + 1) (by omega) (by omega) (by omega) (by omega) (by rw [hin]; rw [in9]; first | (rw [show di9 (σ 9) (σ 10) (σ 11) (σ 12) xN k t j = 1 by (unfold di9; rw [zy]; first | (rw [if_pos (by omega)]; done) | (rw [if_neg (by omega), if_pos (by omega)]; done))]; done) | (rw [show di9 (σ 9) (σ 10) (σ 11) (σ 12) xN k t j = 0 by (unfold di9; rw [zy, if_neg (by omega), if_neg (by omega)])]; first | done | omega)) (by rw [so9, zy]; first | (rw [if_pos (by omega)]; omega) | (rw [if_neg (by omega)]; omega))
                            · skip
                              have zGj := hG j (by omega)
                              refine hv_aload_n C 0 3 dX12_begins_203 rfl rfl ?_
                              refine mo_geta C K 22 12 (by decide) rfl mo_hw fl_44 rfl dX12_begins_204 ?_
                              refine hv_iload C 8 10 dX12_begins_207 rfl ?_
                              refine mo_iald C K 12 7 j rfl (by omega) (by omega) (by decide) dX12_begins_209 ?_
                              refine hv_nm (fun x29 ex29 => ?_)
                              have rx29 : inI x29 := by rw [ex29]; exact hσ 12 j
                              refine hv_iconst C dX12_begins_210 ?_
                              refine hv_iadd C dX12_begins_211 ?_
                              refine hv_istore C 7 [(7, .int (iz (x29 + 2))), (6, .int (iz (i9 + 0))), (10, .int (iz 0)), (9, .int (iz ((yN : Nat) : Int))), (0, .ref a0), (1, .int (iz ((k : Nat) : Int))), (2, .int (iz fr)), (3, .int (iz ((xN : Nat) : Int))), (4, .int (iz t)), (5, .int (iz 1)), (8, .int (iz ((j : Nat) : Int)))] dX12_begins_212 (by decide) rfl ?_
                              refine hv_iinc C 8 10 [(8, .int (iz (((j : Nat) : Int) + 1))), (7, .int (iz (x29 + 2))), (6, .int (iz (i9 + 0))), (10, .int (iz 0)), (9, .int (iz ((yN : Nat) : Int))), (0, .ref a0), (1, .int (iz ((k : Nat) : Int))), (2, .int (iz fr)), (3, .int (iz ((xN : Nat) : Int))), (4, .int (iz t)), (5, .int (iz 1))] dX12_begins_214 rfl (by decide) rfl ?_
                              refine hv_goto C 50 dX12_begins_217 (by decide) ?_
                              refine hv_loc [5, 6, 7, 8, 9, 10, 2, 1, 0] [(0, .ref a0), (1, .int (iz ((k : Nat) : Int))), (2, .int (iz fr)), (3, .int (iz ((xN : Nat) : Int))), (4, .int (iz t)), (5, .int (iz 1)), (6, .int (iz (i9 + 0))), (7, .int (iz (x29 + 2))), (8, .int (iz (((j : Nat) : Int) + 1)))] rfl ?_
                              exact ih50 (i9 + 0) (x29 + 2) (j + 1) (by omega) (by omega) (by omega) (by omega) (by rw [hin]; rw [in9]; first | (rw [show di9 (σ 9) (σ 10) (σ 11) (σ 12) xN k t j = 1 by (unfold di9; rw [zy]; first | (rw [if_pos (by omega)]; done) | (rw [if_neg (by omega), if_pos (by omega)]; done))]; done) | (rw [show di9 (σ 9) (σ 10) (σ 11) (σ 12) xN k t j = 0 by (unfold di9; rw [zy, if_neg (by omega), if_neg (by omega)])]; first | done | omega)) (by rw [so9, zy]; first | (rw [if_pos (by omega)]; omega) | (rw [if_neg (by omega)]; omega))
                      · skip
                        refine hv_iconst C dX12_begins_147 ?_
                        refine hv_goto C 165 dX12_begins_148 (by decide) ?_
                        refine hv_iadd C dX12_begins_165 ?_
                        refine hv_istore C 6 [(6, .int (iz (i9 + 1))), (10, .int (iz 0)), (9, .int (iz ((yN : Nat) : Int))), (0, .ref a0), (1, .int (iz ((k : Nat) : Int))), (2, .int (iz fr)), (3, .int (iz ((xN : Nat) : Int))), (4, .int (iz t)), (5, .int (iz 1)), (7, .int (iz so)), (8, .int (iz ((j : Nat) : Int)))] dX12_begins_166 (by decide) rfl ?_
                        refine hv_aload_n C 0 3 dX12_begins_168 rfl rfl ?_
                        refine mo_geta C K 20 10 (by decide) rfl mo_hw fl_38 rfl dX12_begins_169 ?_
                        refine hv_iload C 9 2 dX12_begins_172 rfl ?_
                        refine mo_zald C K 10 7 yN rfl (by omega) (by omega) (by decide) dX12_begins_174 ?_
                        refine hv_nm (fun x30 ex30 => ?_)
                        have rx30 : inI x30 := by rw [ex30]; exact hσ 10 yN
                        refine hv_if_ne C 214 dX12_begins_175 (by decide) (by omega) (fun h175 => ?_) (fun h175 => ?_)
                        · skip
                          refine hv_iinc C 8 10 [(8, .int (iz (((j : Nat) : Int) + 1))), (6, .int (iz (i9 + 1))), (10, .int (iz 0)), (9, .int (iz ((yN : Nat) : Int))), (0, .ref a0), (1, .int (iz ((k : Nat) : Int))), (2, .int (iz fr)), (3, .int (iz ((xN : Nat) : Int))), (4, .int (iz t)), (5, .int (iz 1)), (7, .int (iz so))] dX12_begins_214 rfl (by decide) rfl ?_
                          refine hv_goto C 50 dX12_begins_217 (by decide) ?_
                          refine hv_loc [4, 5, 6, 7, 8, 9, 1, 10, 0] [(0, .ref a0), (1, .int (iz ((k : Nat) : Int))), (2, .int (iz fr)), (3, .int (iz ((xN : Nat) : Int))), (4, .int (iz t)), (5, .int (iz 1)), (6, .int (iz (i9 + 1))), (7, .int (iz so)), (8, .int (iz (((j : Nat) : Int) + 1)))] rfl ?_
                          exact ih50 (i9 + 1) so (j + 1) (by omega) (by omega) (by omega) (by omega) (by rw [hin]; rw [in9]; first | (rw [show di9 (σ 9) (σ 10) (σ 11) (σ 12) xN k t j = 1 by (unfold di9; rw [zy]; first | (rw [if_pos (by omega)]; done) | (rw [if_neg (by omega), if_pos (by omega)]; done))]; done) | (rw [show di9 (σ 9) (σ 10) (σ 11) (σ 12) xN k t j = 0 by (unfold di9; rw [zy, if_neg (by omega), if_neg (by omega)])]; first | done | omega)) (by rw [so9, zy]; first | (rw [if_pos (by omega)]; omega) | (rw [if_neg (by omega)]; omega))
                        · skip
                          refine hv_iload C 8 10 dX12_begins_178 rfl ?_
                          refine hv_iload_n C 1 4 dX12_begins_180 rfl rfl ?_
                          refine hv_icmp_ge C 214 dX12_begins_181 (by decide) (by omega) (by omega) (fun h181 => ?_) (fun h181 => ?_)
                          · skip
                            refine hv_iinc C 8 10 [(8, .int (iz (((j : Nat) : Int) + 1))), (6, .int (iz (i9 + 1))), (10, .int (iz 0)), (9, .int (iz ((yN : Nat) : Int))), (0, .ref a0), (1, .int (iz ((k : Nat) : Int))), (2, .int (iz fr)), (3, .int (iz ((xN : Nat) : Int))), (4, .int (iz t)), (5, .int (iz 1)), (7, .int (iz so))] dX12_begins_214 rfl (by decide) rfl ?_
                            refine hv_goto C 50 dX12_begins_217 (by decide) ?_
                            refine hv_loc [4, 5, 6, 7, 8, 9, 1, 10, 0] [(0, .ref a0), (1, .int (iz ((k : Nat) : Int))), (2, .int (iz fr)), (3, .int (iz ((xN : Nat) : Int))), (4, .int (iz t)), (5, .int (iz 1)), (6, .int (iz (i9 + 1))), (7, .int (iz so)), (8, .int (iz (((j : Nat) : Int) + 1)))] rfl ?_
                            exact ih50 (i9 + 1) so (j + 1) (by omega) (by omega) (by omega) (by omega) (by rw [hin]; rw [in9]; first | (rw [show di9 (σ 9) (σ 10) (σ 11) (σ 12) xN k t j = 1 by (unfold di9; rw [zy]; first | (rw [if_pos (by omega)]; done) | (rw [if_neg (by omega), if_pos (by omega)]; done))]; done) | (rw [show di9 (σ 9) (σ 10) (σ 11) (σ 12) xN k t j = 0 by (unfold di9; rw [zy, if_neg (by omega), if_neg (by omega)])]; first | done | omega)) (by rw [so9, zy]; first | (rw [if_pos (by omega)]; omega) | (rw [if_neg (by omega)]; omega))
                          · skip
                            refine hv_iload C 10 1 dX12_begins_184 rfl ?_
                            refine hv_if_ne C 214 dX12_begins_186 (by decide) (by decide) (fun h => absurd h (by decide)) (fun _ => ?_)
                            have zGj := hG j (by omega)
                            refine hv_aload_n C 0 3 dX12_begins_189 rfl rfl ?_
                            refine mo_geta C K 22 12 (by decide) rfl mo_hw fl_44 rfl dX12_begins_190 ?_
                            refine hv_iload C 8 10 dX12_begins_193 rfl ?_
                            refine mo_iald C K 12 7 j rfl (by omega) (by omega) (by decide) dX12_begins_195 ?_
                            refine hv_nm (fun x31 ex31 => ?_)
                            have rx31 : inI x31 := by rw [ex31]; exact hσ 12 j
                            refine hv_iconst C dX12_begins_196 ?_
                            refine hv_iadd C dX12_begins_197 ?_
                            refine hv_iload C 7 9 dX12_begins_198 rfl ?_
                            refine hv_icmp_ge C 214 dX12_begins_200 (by decide) (by omega) (by omega) (fun h200 => ?_) (fun h200 => ?_)
                            · skip
                              refine hv_iinc C 8 10 [(8, .int (iz (((j : Nat) : Int) + 1))), (6, .int (iz (i9 + 1))), (10, .int (iz 0)), (9, .int (iz ((yN : Nat) : Int))), (0, .ref a0), (1, .int (iz ((k : Nat) : Int))), (2, .int (iz fr)), (3, .int (iz ((xN : Nat) : Int))), (4, .int (iz t)), (5, .int (iz 1)), (7, .int (iz so))] dX12_begins_214 rfl (by decide) rfl ?_
                              refine hv_goto C 50 dX12_begins_217 (by decide) ?_
                              refine hv_loc [4, 5, 6, 7, 8, 9, 1, 10, 0] [(0, .ref a0), (1, .int (iz ((k : Nat) : Int))), (2, .int (iz fr)), (3, .int (iz ((xN : Nat) : Int))), (4, .int (iz t)), (5, .int (iz 1)), (6, .int (iz (i9 + 1))), (7, .int (iz so)), (8, .int (iz (((j : Nat) : Int) + 1)))] rfl ?_
                              exact ih50 (i9 + 1) so (j + 1) (by omega) (by omega) (by omega) (by omega) (by rw [hin]; rw [in9]; first | (rw [show di9 (σ 9) (σ 10) (σ 11) (σ 12) xN k t j = 1 by (unfold di9; rw [zy]; first | (rw [if_pos (by omega)]; done) | (rw [if_neg (by omega), if_pos (by omega)]; done))]; done) | (rw [show di9 (σ 9) (σ 10) (σ 11) (σ 12) xN k t j = 0 by (unfold di9; rw [zy, if_neg (by omega), if_neg (by omega)])]; first | done | omega)) (by rw [so9, zy]; first | (rw [if_pos (by omega)]; omega) | (rw [if_neg (by omega)]; omega))
                            · skip
                              have zGj := hG j (by omega)
                              refine hv_aload_n C 0 3 dX12_begins_203 rfl rfl ?_
                              refine mo_geta C K 22 12 (by decide) rfl mo_hw fl_44 rfl dX12_begins_204 ?_
                              refine hv_iload C 8 10 dX12_begins_207 rfl ?_
                              refine mo_iald C K 12 7 j rfl (by omega) (by omega) (by decide) dX12_begins_209 ?_
                              refine hv_nm (fun x32 ex32 => ?_)
                              have rx32 : inI x32 := by rw [ex32]; exact hσ 12 j
                              refine hv_iconst C dX12_begins_210 ?_
                              refine hv_iadd C dX12_begins_211 ?_
                              refine hv_istore C 7 [(7, .int (iz (x32 + 2))), (6, .int (iz (i9 + 1))), (10, .int (iz 0)), (9, .int (iz ((yN : Nat) : Int))), (0, .ref a0), (1, .int (iz ((k : Nat) : Int))), (2, .int (iz fr)), (3, .int (iz ((xN : Nat) : Int))), (4, .int (iz t)), (5, .int (iz 1)), (8, .int (iz ((j : Nat) : Int)))] dX12_begins_212 (by decide) rfl ?_
                              refine hv_iinc C 8 10 [(8, .int (iz (((j : Nat) : Int) + 1))), (7, .int (iz (x32 + 2))), (6, .int (iz (i9 + 1))), (10, .int (iz 0)), (9, .int (iz ((yN : Nat) : Int))), (0, .ref a0), (1, .int (iz ((k : Nat) : Int))), (2, .int (iz fr)), (3, .int (iz ((xN : Nat) : Int))), (4, .int (iz t)), (5, .int (iz 1))] dX12_begins_214 rfl (by decide) rfl ?_
                              refine hv_goto C 50 dX12_begins_217 (by decide) ?_
                              refine hv_loc [5, 6, 7, 8, 9, 10, 2, 1, 0] [(0, .ref a0), (1, .int (iz ((k : Nat) : Int))), (2, .int (iz fr)), (3, .int (iz ((xN : Nat) : Int))), (4, .int (iz t)), (5, .int (iz 1)), (6, .int (iz (i9 + 1))), (7, .int (iz (x32 + 2))), (8, .int (iz (((j : Nat) : Int) + 1)))] rfl ?_
                              exact ih50 (i9 + 1) (x32 + 2) (j + 1) (by omega) (by omega) (by omega) (by omega) (by rw [hin]; rw [in9]; first | (rw [show di9 (σ 9) (σ 10) (σ 11) (σ 12) xN k t j = 1 by (unfold di9; rw [zy]; first | (rw [if_pos (by omega)]; done) | (rw [if_neg (by omega), if_pos (by omega)]; done))]; done) | (rw [show di9 (σ 9) (σ 10) (σ 11) (σ 12) xN k t j = 0 by (unfold di9; rw [zy, if_neg (by omega), if_neg (by omega)])]; first | done | omega)) (by rw [so9, zy]; first | (rw [if_pos (by omega)]; omega) | (rw [if_neg (by omega)]; omega))
                  · skip
                    have zGj := hG j (by omega)
                    refine hv_aload_n C 0 1 dX12_begins_108 rfl rfl ?_
                    refine mo_geta C K 22 12 (by decide) rfl mo_hw fl_44 rfl dX12_begins_109 ?_
                    refine hv_iload C 8 9 dX12_begins_112 rfl ?_
                    refine mo_iald C K 12 7 j rfl (by omega) (by omega) (by decide) dX12_begins_114 ?_
                    refine hv_nm (fun x33 ex33 => ?_)
                    have rx33 : inI x33 := by rw [ex33]; exact hσ 12 j
                    refine hv_iconst C dX12_begins_115 ?_
                    refine hv_iadd C dX12_begins_116 ?_
                    refine hv_iload C 4 5 dX12_begins_117 rfl ?_
                    refine hv_icmp_gt C 126 dX12_begins_119 (by decide) (by omega) (by omega) (fun h119 => ?_) (fun h119 => ?_)
                    · skip
                      refine hv_iconst C dX12_begins_126 ?_
                      refine hv_istore C 10 [(10, .int (iz 0)), (9, .int (iz ((yN : Nat) : Int))), (0, .ref a0), (1, .int (iz ((k : Nat) : Int))), (2, .int (iz fr)), (3, .int (iz ((xN : Nat) : Int))), (4, .int (iz t)), (5, .int (iz 1)), (6, .int (iz i9)), (7, .int (iz so)), (8, .int (iz ((j : Nat) : Int)))] dX12_begins_127 (by decide) rfl ?_
                      refine hv_iload C 6 8 dX12_begins_129 rfl ?_
                      refine hv_aload_n C 0 2 dX12_begins_131 rfl rfl ?_
                      refine mo_geta C K 20 10 (by decide) rfl mo_hw fl_38 rfl dX12_begins_132 ?_
                      refine hv_iload C 9 1 dX12_begins_135 rfl ?_
                      refine mo_zald C K 10 7 yN rfl (by omega) (by omega) (by decide) dX12_begins_137 ?_
                      refine hv_nm (fun x34 ex34 => ?_)
                      have rx34 : inI x34 := by rw [ex34]; exact hσ 10 yN
                      refine hv_if_eq C 155 dX12_begins_138 (by decide) (by omega) (fun h138 => ?_) (fun h138 => ?_)
                      · skip
                        refine hv_iload C 10 0 dX12_begins_155 rfl ?_
                        refine hv_if_eq C 164 dX12_begins_157 (by decide) (by decide) (fun _ => ?_) (fun h => absurd h (by decide))
                        refine hv_iconst C dX12_begins_164 ?_
                        refine hv_iadd C dX12_begins_165 ?_
                        refine hv_istore C 6 [(6, .int (iz (i9 + 1))), (10, .int (iz 0)), (9, .int (iz ((yN : Nat) : Int))), (0, .ref a0), (1, .int (iz ((k : Nat) : Int))), (2, .int (iz fr)), (3, .int (iz ((xN : Nat) : Int))), (4, .int (iz t)), (5, .int (iz 1)), (7, .int (iz so)), (8, .int (iz ((j : Nat) : Int)))] dX12_begins_166 (by decide) rfl ?_
                        refine hv_aload_n C 0 3 dX12_begins_168 rfl rfl ?_
                        refine mo_geta C K 20 10 (by decide) rfl mo_hw fl_38 rfl dX12_begins_169 ?_
                        refine hv_iload C 9 2 dX12_begins_172 rfl ?_
                        refine mo_zald C K 10 7 yN rfl (by omega) (by omega) (by decide) dX12_begins_174 ?_
                        refine hv_nm (fun x35 ex35 => ?_)
                        have rx35 : inI x35 := by rw [ex35]; exact hσ 10 yN
                        refine hv_if_ne C 214 dX12_begins_175 (by decide) (by omega) (fun h175 => ?_) (fun h175 => ?_)
                        · skip
                          refine hv_iinc C 8 10 [(8, .int (iz (((j : Nat) : Int) + 1))), (6, .int (iz (i9 + 1))), (10, .int (iz 0)), (9, .int (iz ((yN : Nat) : Int))), (0, .ref a0), (1, .int (iz ((k : Nat) : Int))), (2, .int (iz fr)), (3, .int (iz ((xN : Nat) : Int))), (4, .int (iz t)), (5, .int (iz 1)), (7, .int (iz so))] dX12_begins_214 rfl (by decide) rfl ?_
                          refine hv_goto C 50 dX12_begins_217 (by decide) ?_
                          refine hv_loc [4, 5, 6, 7, 8, 9, 1, 10, 0] [(0, .ref a0), (1, .int (iz ((k : Nat) : Int))), (2, .int (iz fr)), (3, .int (iz ((xN : Nat) : Int))), (4, .int (iz t)), (5, .int (iz 1)), (6, .int (iz (i9 + 1))), (7, .int (iz so)), (8, .int (iz (((j : Nat) : Int) + 1)))] rfl ?_
                          exact ih50 (i9 + 1) so (j + 1) (by omega) (by omega) (by omega) (by omega) (by rw [hin]; rw [in9]; first | (rw [show di9 (σ 9) (σ 10) (σ 11) (σ 12) xN k t j = 1 by (unfold di9; rw [zy]; first | (rw [if_pos (by omega)]; done) | (rw [if_neg (by omega), if_pos (by omega)]; done))]; done) | (rw [show di9 (σ 9) (σ 10) (σ 11) (σ 12) xN k t j = 0 by (unfold di9; rw [zy, if_neg (by omega), if_neg (by omega)])]; first | done | omega)) (by rw [so9, zy]; first | (rw [if_pos (by omega)]; omega) | (rw [if_neg (by omega)]; omega))
                        · skip
                          refine hv_iload C 8 10 dX12_begins_178 rfl ?_
                          refine hv_iload_n C 1 4 dX12_begins_180 rfl rfl ?_
                          refine hv_icmp_ge C 214 dX12_begins_181 (by decide) (by omega) (by omega) (fun h181 => ?_) (fun h181 => ?_)
                          · skip
                            refine hv_iinc C 8 10 [(8, .int (iz (((j : Nat) : Int) + 1))), (6, .int (iz (i9 + 1))), (10, .int (iz 0)), (9, .int (iz ((yN : Nat) : Int))), (0, .ref a0), (1, .int (iz ((k : Nat) : Int))), (2, .int (iz fr)), (3, .int (iz ((xN : Nat) : Int))), (4, .int (iz t)), (5, .int (iz 1)), (7, .int (iz so))] dX12_begins_214 rfl (by decide) rfl ?_
                            refine hv_goto C 50 dX12_begins_217 (by decide) ?_
                            refine hv_loc [4, 5, 6, 7, 8, 9, 1, 10, 0] [(0, .ref a0), (1, .int (iz ((k : Nat) : Int))), (2, .int (iz fr)), (3, .int (iz ((xN : Nat) : Int))), (4, .int (iz t)), (5, .int (iz 1)), (6, .int (iz (i9 + 1))), (7, .int (iz so)), (8, .int (iz (((j : Nat) : Int) + 1)))] rfl ?_
                            exact ih50 (i9 + 1) so (j + 1) (by omega) (by omega) (by omega) (by omega) (by rw [hin]; rw [in9]; first | (rw [show di9 (σ 9) (σ 10) (σ 11) (σ 12) xN k t j = 1 by (unfold di9; rw [zy]; first | (rw [if_pos (by omega)]; done) | (rw [if_neg (by omega), if_pos (by omega)]; done))]; done) | (rw [show di9 (σ 9) (σ 10) (σ 11) (σ 12) xN k t j = 0 by (unfold di9; rw [zy, if_neg (by omega), if_neg (by omega)])]; first | done | omega)) (by rw [so9, zy]; first | (rw [if_pos (by omega)]; omega) | (rw [if_neg (by omega)]; omega))
                          · skip
                            refine hv_iload C 10 1 dX12_begins_184 rfl ?_
                            refine hv_if_ne C 214 dX12_begins_186 (by decide) (by decide) (fun h => absurd h (by decide)) (fun _ => ?_)
                            have zGj := hG j (by omega)
                            refine hv_aload_n C 0 3 dX12_begins_189 rfl rfl ?_
                            refine mo_geta C K 22 12 (by decide) rfl mo_hw fl_44 rfl dX12_begins_190 ?_
                            refine hv_iload C 8 10 dX12_begins_193 rfl ?_
                            refine mo_iald C K 12 7 j rfl (by omega) (by omega) (by decide) dX12_begins_195 ?_
                            refine hv_nm (fun x36 ex36 => ?_)
                            have rx36 : inI x36 := by rw [ex36]; exact hσ 12 j
                            refine hv_iconst C dX12_begins_196 ?_
                            refine hv_iadd C dX12_begins_197 ?_
                            refine hv_iload C 7 9 dX12_begins_198 rfl ?_
                            refine hv_icmp_ge C 214 dX12_begins_200 (by decide) (by omega) (by omega) (fun h200 => ?_) (fun h200 => ?_)
                            · skip
                              refine hv_iinc C 8 10 [(8, .int (iz (((j : Nat) : Int) + 1))), (6, .int (iz (i9 + 1))), (10, .int (iz 0)), (9, .int (iz ((yN : Nat) : Int))), (0, .ref a0), (1, .int (iz ((k : Nat) : Int))), (2, .int (iz fr)), (3, .int (iz ((xN : Nat) : Int))), (4, .int (iz t)), (5, .int (iz 1)), (7, .int (iz so))] dX12_begins_214 rfl (by decide) rfl ?_
                              refine hv_goto C 50 dX12_begins_217 (by decide) ?_
                              refine hv_loc [4, 5, 6, 7, 8, 9, 1, 10, 0] [(0, .ref a0), (1, .int (iz ((k : Nat) : Int))), (2, .int (iz fr)), (3, .int (iz ((xN : Nat) : Int))), (4, .int (iz t)), (5, .int (iz 1)), (6, .int (iz (i9 + 1))), (7, .int (iz so)), (8, .int (iz (((j : Nat) : Int) + 1)))] rfl ?_
                              exact ih50 (i9 + 1) so (j + 1) (by omega) (by omega) (by omega) (by omega) (by rw [hin]; rw [in9]; first | (rw [show di9 (σ 9) (σ 10) (σ 11) (σ 12) xN k t j = 1 by (unfold di9; rw [zy]; first | (rw [if_pos (by omega)]; done) | (rw [if_neg (by omega), if_pos (by omega)]; done))]; done) | (rw [show di9 (σ 9) (σ 10) (σ 11) (σ 12) xN k t j = 0 by (unfold di9; rw [zy, if_neg (by omega), if_neg (by omega)])]; first | done | omega)) (by rw [so9, zy]; first | (rw [if_pos (by omega)]; omega) | (rw [if_neg (by omega)]; omega))
                            · skip
                              have zGj := hG j (by omega)
                              refine hv_aload_n C 0 3 dX12_begins_203 rfl rfl ?_
                              refine mo_geta C K 22 12 (by decide) rfl mo_hw fl_44 rfl dX12_begins_204 ?_
                              refine hv_iload C 8 10 dX12_begins_207 rfl ?_
                              refine mo_iald C K 12 7 j rfl (by omega) (by omega) (by decide) dX12_begins_209 ?_
                              refine hv_nm (fun x37 ex37 => ?_)
                              have rx37 : inI x37 := by rw [ex37]; exact hσ 12 j
                              refine hv_iconst C dX12_begins_210 ?_
                              refine hv_iadd C dX12_begins_211 ?_
                              refine hv_istore C 7 [(7, .int (iz (x37 + 2))), (6, .int (iz (i9 + 1))), (10, .int (iz 0)), (9, .int (iz ((yN : Nat) : Int))), (0, .ref a0), (1, .int (iz ((k : Nat) : Int))), (2, .int (iz fr)), (3, .int (iz ((xN : Nat) : Int))), (4, .int (iz t)), (5, .int (iz 1)), (8, .int (iz ((j : Nat) : Int)))] dX12_begins_212 (by decide) rfl ?_
                              refine hv_iinc C 8 10 [(8, .int (iz (((j : Nat) : Int) + 1))), (7, .int (iz (x37 + 2))), (6, .int (iz (i9 + 1))), (10, .int (iz 0)), (9, .int (iz ((yN : Nat) : Int))), (0, .ref a0), (1, .int (iz ((k : Nat) : Int))), (2, .int (iz fr)), (3, .int (iz ((xN : Nat) : Int))), (4, .int (iz t)), (5, .int (iz 1))] dX12_begins_214 rfl (by decide) rfl ?_
                              refine hv_goto C 50 dX12_begins_217 (by decide) ?_
                              refine hv_loc [5, 6, 7, 8, 9, 10, 2, 1, 0] [(0, .ref a0), (1, .int (iz ((k : Nat) : Int))), (2, .int (iz fr)), (3, .int (iz ((xN : Nat) : Int))), (4, .int (iz t)), (5, .int (iz 1)), (6, .int (iz (i9 + 1))), (7, .int (iz (x37 + 2))), (8, .int (iz (((j : Nat) : Int) + 1)))] rfl ?_
                              exact ih50 (i9 + 1) (x37 + 2) (j + 1) (by omega) (by omega) (by omega) (by omega) (by rw [hin]; rw [in9]; first | (rw [show di9 (σ 9) (σ 10) (σ 11) (σ 12) xN k t j = 1 by (unfold di9; rw [zy]; first | (rw [if_pos (by omega)]; done) | (rw [if_neg (by omega), if_pos (by omega)]; done))]; done) | (rw [show di9 (σ 9) (σ 10) (σ 11) (σ 12) xN k t j = 0 by (unfold di9; rw [zy, if_neg (by omega), if_neg (by omega)])]; first | done | omega)) (by rw [so9, zy]; first | (rw [if_pos (by omega)]; omega) | (rw [if_neg (by omega)]; omega))
                      · skip
                        refine hv_iload C 8 10 dX12_begins_141 rfl ?_
                        refine hv_iload_n C 1 3 dX12_begins_143 rfl rfl ?_
                        refine hv_icmp_ge C 151 dX12_begins_144 (by decide) (by omega) (by omega) (fun h144 => ?_) (fun h144 => ?_)
                        · skip
                          refine hv_iconst C dX12_begins_151 ?_
                          refine hv_goto C 165 dX12_begins_152 (by decide) ?_
                          refine hv_iadd C dX12_begins_165 ?_
                          refine hv_istore C 6 [(6, .int (iz (i9 + 0))), (10, .int (iz 0)), (9, .int (iz ((yN : Nat) : Int))), (0, .ref a0), (1, .int (iz ((k : Nat) : Int))), (2, .int (iz fr)), (3, .int (iz ((xN : Nat) : Int))), (4, .int (iz t)), (5, .int (iz 1)), (7, .int (iz so)), (8, .int (iz ((j : Nat) : Int)))] dX12_begins_166 (by decide) rfl ?_
                          refine hv_aload_n C 0 3 dX12_begins_168 rfl rfl ?_
                          refine mo_geta C K 20 10 (by decide) rfl mo_hw fl_38 rfl dX12_begins_169 ?_
                          refine hv_iload C 9 2 dX12_begins_172 rfl ?_
                          refine mo_zald C K 10 7 yN rfl (by omega) (by omega) (by decide) dX12_begins_174 ?_
                          refine hv_nm (fun x38 ex38 => ?_)
                          have rx38 : inI x38 := by rw [ex38]; exact hσ 10 yN
                          refine hv_if_ne C 214 dX12_begins_175 (by decide) (by omega) (fun h175 => ?_) (fun h175 => ?_)
                          · skip
                            refine hv_iinc C 8 10 [(8, .int (iz (((j : Nat) : Int) + 1))), (6, .int (iz (i9 + 0))), (10, .int (iz 0)), (9, .int (iz ((yN : Nat) : Int))), (0, .ref a0), (1, .int (iz ((k : Nat) : Int))), (2, .int (iz fr)), (3, .int (iz ((xN : Nat) : Int))), (4, .int (iz t)), (5, .int (iz 1)), (7, .int (iz so))] dX12_begins_214 rfl (by decide) rfl ?_
                            refine hv_goto C 50 dX12_begins_217 (by decide) ?_
                            refine hv_loc [4, 5, 6, 7, 8, 9, 1, 10, 0] [(0, .ref a0), (1, .int (iz ((k : Nat) : Int))), (2, .int (iz fr)), (3, .int (iz ((xN : Nat) : Int))), (4, .int (iz t)), (5, .int (iz 1)), (6, .int (iz (i9 + 0))), (7, .int (iz so)), (8, .int (iz (((j : Nat) : Int) + 1)))] rfl ?_
                            exact ih50 (i9 + 0) so (j + 1) (by omega) (by omega) (by omega) (by omega) (by rw [hin]; rw [in9]; first | (rw [show di9 (σ 9) (σ 10) (σ 11) (σ 12) xN k t j = 1 by (unfold di9; rw [zy]; first | (rw [if_pos (by omega)]; done) | (rw [if_neg (by omega), if_pos (by omega)]; done))]; done) | (rw [show di9 (σ 9) (σ 10) (σ 11) (σ 12) xN k t j = 0 by (unfold di9; rw [zy, if_neg (by omega), if_neg (by omega)])]; first | done | omega)) (by rw [so9, zy]; first | (rw [if_pos (by omega)]; omega) | (rw [if_neg (by omega)]; omega))
                          · skip
                            refine hv_iload C 8 10 dX12_begins_178 rfl ?_
                            refine hv_iload_n C 1 4 dX12_begins_180 rfl rfl ?_
                            refine hv_icmp_ge C 214 dX12_begins_181 (by decide) (by omega) (by omega) (fun h181 => ?_) (fun h181 => ?_)
                            · skip
                              refine hv_iinc C 8 10 [(8, .int (iz (((j : Nat) : Int) + 1))), (6, .int (iz (i9 + 0))), (10, .int (iz 0)), (9, .int (iz ((yN : Nat) : Int))), (0, .ref a0), (1, .int (iz ((k : Nat) : Int))), (2, .int (iz fr)), (3, .int (iz ((xN : Nat) : Int))), (4, .int (iz t)), (5, .int (iz 1)), (7, .int (iz so))] dX12_begins_214 rfl (by decide) rfl ?_
                              refine hv_goto C 50 dX12_begins_217 (by decide) ?_
                              refine hv_loc [4, 5, 6, 7, 8, 9, 1, 10, 0] [(0, .ref a0), (1, .int (iz ((k : Nat) : Int))), (2, .int (iz fr)), (3, .int (iz ((xN : Nat) : Int))), (4, .int (iz t)), (5, .int (iz 1)), (6, .int (iz (i9 + 0))), (7, .int (iz so)), (8, .int (iz (((j : Nat) : Int) + 1)))] rfl ?_
                              exact ih50 (i9 + 0) so (j + 1) (by omega) (by omega) (by omega) (by omega) (by rw [hin]; rw [in9]; first | (rw [show di9 (σ 9) (σ 10) (σ 11) (σ 12) xN k t j = 1 by (unfold di9; rw [zy]; first | (rw [if_pos (by omega)]; done) | (rw [if_neg (by omega), if_pos (by omega)]; done))]; done) | (rw [show di9 (σ 9) (σ 10) (σ 11) (σ 12) xN k t j = 0 by (unfold di9; rw [zy, if_neg (by omega), if_neg (by omega)])]; first | done | omega)) (by rw [so9, zy]; first | (rw [if_pos (by omega)]; omega) | (rw [if_neg (by omega)]; omega))
                            · skip
                              refine hv_iload C 10 1 dX12_begins_184 rfl ?_
                              refine hv_if_ne C 214 dX12_begins_186 (by decide) (by decide) (fun h => absurd h (by decide)) (fun _ => ?_)
                              have zGj := hG j (by omega)
                              refine hv_aload_n C 0 3 dX12_begins_189 rfl rfl ?_
                              refine mo_geta C K 22 12 (by decide) rfl mo_hw fl_44 rfl dX12_begins_190 ?_
                              refine hv_iload C 8 10 dX12_begins_193 rfl ?_
                              refine mo_iald C K 12 7 j rfl (by omega) (by omega) (by decide) dX12_begins_195 ?_
                              refine hv_nm (fun x39 ex39 => ?_)
                              have rx39 : inI x39 := by rw [ex39]; exact hσ 12 j
                              refine hv_iconst C dX12_begins_196 ?_
                              refine hv_iadd C dX12_begins_197 ?_
                              refine hv_iload C 7 9 dX12_begins_198 rfl ?_
                              refine hv_icmp_ge C 214 dX12_begins_200 (by decide) (by omega) (by omega) (fun h200 => ?_) (fun h200 => ?_)
                              · skip
                                refine hv_iinc C 8 10 [(8, .int (iz (((j : Nat) : Int) + 1))), (6, .int (iz (i9 + 0))), (10, .int (iz 0)), (9, .int (iz ((yN : Nat) : Int))), (0, .ref a0), (1, .int (iz ((k : Nat) : Int))), (2, .int (iz fr)), (3, .int (iz ((xN : Nat) : Int))), (4, .int (iz t)), (5, .int (iz 1)), (7, .int (iz so))] dX12_begins_214 rfl (by decide) rfl ?_
                                refine hv_goto C 50 dX12_begins_217 (by decide) ?_
                                refine hv_loc [4, 5, 6, 7, 8, 9, 1, 10, 0] [(0, .ref a0), (1, .int (iz ((k : Nat) : Int))), (2, .int (iz fr)), (3, .int (iz ((xN : Nat) : Int))), (4, .int (iz t)), (5, .int (iz 1)), (6, .int (iz (i9 + 0))), (7, .int (iz so)), (8, .int (iz (((j : Nat) : Int) + 1)))] rfl ?_
                                exact ih50 (i9 + 0) so (j + 1) (by omega) (by omega) (by omega) (by omega) (by rw [hin]; rw [in9]; first | (rw [show di9 (σ 9) (σ 10) (σ 11) (σ 12) xN k t j = 1 by (unfold di9; rw [zy]; first | (rw [if_pos (by omega)]; done) | (rw [if_neg (by omega), if_pos (by omega)]; done))]; done) | (rw [show di9 (σ 9) (σ 10) (σ 11) (σ 12) xN k t j = 0 by (unfold di9; rw [zy, if_neg (by omega), if_neg (by omega)])]; first | done | omega)) (by rw [so9, zy]; first | (rw [if_pos (by omega)]; omega) | (rw [if_neg (by omega)]; omega))
                              · skip
                                have zGj := hG j (by omega)
                                refine hv_aload_n C 0 3 dX12_begins_203 rfl rfl ?_
                                refine mo_geta C K 22 12 (by decide) rfl mo_hw fl_44 rfl dX12_begins_204 ?_
                                refine hv_iload C 8 10 dX12_begins_207 rfl ?_
                                refine mo_iald C K 12 7 j rfl (by omega) (by omega) (by decide) dX12_begins_209 ?_
                                refine hv_nm (fun x40 ex40 => ?_)
                                have rx40 : inI x40 := by rw [ex40]; exact hσ 12 j
                                refine hv_iconst C dX12_begins_210 ?_
                                refine hv_iadd C dX12_begins_211 ?_
                                refine hv_istore C 7 [(7, .int (iz (x40 + 2))), (6, .int (iz (i9 + 0))), (10, .int (iz 0)), (9, .int (iz ((yN : Nat) : Int))), (0, .ref a0), (1, .int (iz ((k : Nat) : Int))), (2, .int (iz fr)), (3, .int (iz ((xN : Nat) : Int))), (4, .int (iz t)), (5, .int (iz 1)), (8, .int (iz ((j : Nat) : Int)))] dX12_begins_212 (by decide) rfl ?_
                                refine hv_iinc C 8 10 [(8, .int (iz (((j : Nat) : Int) + 1))), (7, .int (iz (x40 + 2))), (6, .int (iz (i9 + 0))), (10, .int (iz 0)), (9, .int (iz ((yN : Nat) : Int))), (0, .ref a0), (1, .int (iz ((k : Nat) : Int))), (2, .int (iz fr)), (3, .int (iz ((xN : Nat) : Int))), (4, .int (iz t)), (5, .int (iz 1))] dX12_begins_214 rfl (by decide) rfl ?_
                                refine hv_goto C 50 dX12_begins_217 (by decide) ?_
                                refine hv_loc [5, 6, 7, 8, 9, 10, 2, 1, 0] [(0, .ref a0), (1, .int (iz ((k : Nat) : Int))), (2, .int (iz fr)), (3, .int (iz ((xN : Nat) : Int))), (4, .int (iz t)), (5, .int (iz 1)), (6, .int (iz (i9 + 0))), (7, .int (iz (x40 + 2))), (8, .int (iz (((j : Nat) : Int) + 1)))] rfl ?_
                                exact ih50 (i9 + 0) (x40 + 2) (j + 1) (by omega) (by omega) (by omega) (by omega) (by rw [hin]; rw [in9]; first | (rw [show di9 (σ 9) (σ 10) (σ 11) (σ 12) xN k t j = 1 by (unfold di9; rw [zy]; first | (rw [if_pos (by omega)]; done) | (rw [if_neg (by omega), if_pos (by omega)]; done))]; done) | (rw [show di9 (σ 9) (σ 10) (σ 11) (σ 12) xN k t j = 0 by (unfold di9; rw [zy, if_neg (by omega), if_neg (by omega)])]; first | done | omega)) (by rw [so9, zy]; first | (rw [if_pos (by omega)]; omega) | (rw [if_neg (by omega)]; omega))
                        · skip
                          refine hv_iconst C dX12_begins_147 ?_
                          refine hv_goto C 165 dX12_begins_148 (by decide) ?_
                          refine hv_iadd C dX12_begins_165 ?_
                          refine hv_istore C 6 [(6, .int (iz (i9 + 1))), (10, .int (iz 0)), (9, .int (iz ((yN : Nat) : Int))), (0, .ref a0), (1, .int (iz ((k : Nat) : Int))), (2, .int (iz fr)), (3, .int (iz ((xN : Nat) : Int))), (4, .int (iz t)), (5, .int (iz 1)), (7, .int (iz so)), (8, .int (iz ((j : Nat) : Int)))] dX12_begins_166 (by decide) rfl ?_
                          refine hv_aload_n C 0 3 dX12_begins_168 rfl rfl ?_
                          refine mo_geta C K 20 10 (by decide) rfl mo_hw fl_38 rfl dX12_begins_169 ?_
                          refine hv_iload C 9 2 dX12_begins_172 rfl ?_
                          refine mo_zald C K 10 7 yN rfl (by omega) (by omega) (by decide) dX12_begins_174 ?_
                          refine hv_nm (fun x41 ex41 => ?_)
                          have rx41 : inI x41 := by rw [ex41]; exact hσ 10 yN
                          refine hv_if_ne C 214 dX12_begins_175 (by decide) (by omega) (fun h175 => ?_) (fun h175 => ?_)
                          · skip
                            refine hv_iinc C 8 10 [(8, .int (iz (((j : Nat) : Int) + 1))), (6, .int (iz (i9 + 1))), (10, .int (iz 0)), (9, .int (iz ((yN : Nat) : Int))), (0, .ref a0), (1, .int (iz ((k : Nat) : Int))), (2, .int (iz fr)), (3, .int (iz ((xN : Nat) : Int))), (4, .int (iz t)), (5, .int (iz 1)), (7, .int (iz so))] dX12_begins_214 rfl (by decide) rfl ?_
                            refine hv_goto C 50 dX12_begins_217 (by decide) ?_
                            refine hv_loc [4, 5, 6, 7, 8, 9, 1, 10, 0] [(0, .ref a0), (1, .int (iz ((k : Nat) : Int))), (2, .int (iz fr)), (3, .int (iz ((xN : Nat) : Int))), (4, .int (iz t)), (5, .int (iz 1)), (6, .int (iz (i9 + 1))), (7, .int (iz so)), (8, .int (iz (((j : Nat) : Int) + 1)))] rfl ?_
                            exact ih50 (i9 + 1) so (j + 1) (by omega) (by omega) (by omega) (by omega) (by rw [hin]; rw [in9]; first | (rw [show di9 (σ 9) (σ 10) (σ 11) (σ 12) xN k t j = 1 by (unfold di9; rw [zy]; first | (rw [if_pos (by omega)]; done) | (rw [if_neg (by omega), if_pos (by omega)]; done))]; done) | (rw [show di9 (σ 9) (σ 10) (σ 11) (σ 12) xN k t j = 0 by (unfold di9; rw [zy, if_neg (by omega), if_neg (by omega)])]; first | done | omega)) (by rw [so9, zy]; first | (rw [if_pos (by omega)]; omega) | (rw [if_neg (by omega)]; omega))
                          · skip
                            refine hv_iload C 8 10 dX12_begins_178 rfl ?_
                            refine hv_iload_n C 1 4 dX12_begins_180 rfl rfl ?_
                            refine hv_icmp_ge C 214 dX12_begins_181 (by decide) (by omega) (by omega) (fun h181 => ?_) (fun h181 => ?_)
                            · skip
                              refine hv_iinc C 8 10 [(8, .int (iz (((j : Nat) : Int) + 1))), (6, .int (iz (i9 + 1))), (10, .int (iz 0)), (9, .int (iz ((yN : Nat) : Int))), (0, .ref a0), (1, .int (iz ((k : Nat) : Int))), (2, .int (iz fr)), (3, .int (iz ((xN : Nat) : Int))), (4, .int (iz t)), (5, .int (iz 1)), (7, .int (iz so))] dX12_begins_214 rfl (by decide) rfl ?_
                              refine hv_goto C 50 dX12_begins_217 (by decide) ?_
                              refine hv_loc [4, 5, 6, 7, 8, 9, 1, 10, 0] [(0, .ref a0), (1, .int (iz ((k : Nat) : Int))), (2, .int (iz fr)), (3, .int (iz ((xN : Nat) : Int))), (4, .int (iz t)), (5, .int (iz 1)), (6, .int (iz (i9 + 1))), (7, .int (iz so)), (8, .int (iz (((j : Nat) : Int) + 1)))] rfl ?_
                              exact ih50 (i9 + 1) so (j + 1) (by omega) (by omega) (by omega) (by omega) (by rw [hin]; rw [in9]; first | (rw [show di9 (σ 9) (σ 10) (σ 11) (σ 12) xN k t j = 1 by (unfold di9; rw [zy]; first | (rw [if_pos (by omega)]; done) | (rw [if_neg (by omega), if_pos (by omega)]; done))]; done) | (rw [show di9 (σ 9) (σ 10) (σ 11) (σ 12) xN k t j = 0 by (unfold di9; rw [zy, if_neg (by omega), if_neg (by omega)])]; first | done | omega)) (by rw [so9, zy]; first | (rw [if_pos (by omega)]; omega) | (rw [if_neg (by omega)]; omega))
                            · skip
                              refine hv_iload C 10 1 dX12_begins_184 rfl ?_
                              refine hv_if_ne C 214 dX12_begins_186 (by decide) (by decide) (fun h => absurd h (by decide)) (fun _ => ?_)
                              have zGj := hG j (by omega)
                              refine hv_aload_n C 0 3 dX12_begins_189 rfl rfl ?_
                              refine mo_geta C K 22 12 (by decide) rfl mo_hw fl_44 rfl dX12_begins_190 ?_
                              refine hv_iload C 8 10 dX12_begins_193 rfl ?_
                              refine mo_iald C K 12 7 j rfl (by omega) (by omega) (by decide) dX12_begins_195 ?_
                              refine hv_nm (fun x42 ex42 => ?_)
                              have rx42 : inI x42 := by rw [ex42]; exact hσ 12 j
                              refine hv_iconst C dX12_begins_196 ?_
                              refine hv_iadd C dX12_begins_197 ?_
                              refine hv_iload C 7 9 dX12_begins_198 rfl ?_
                              refine hv_icmp_ge C 214 dX12_begins_200 (by decide) (by omega) (by omega) (fun h200 => ?_) (fun h200 => ?_)
                              · skip
                                refine hv_iinc C 8 10 [(8, .int (iz (((j : Nat) : Int) + 1))), (6, .int (iz (i9 + 1))), (10, .int (iz 0)), (9, .int (iz ((yN : Nat) : Int))), (0, .ref a0), (1, .int (iz ((k : Nat) : Int))), (2, .int (iz fr)), (3, .int (iz ((xN : Nat) : Int))), (4, .int (iz t)), (5, .int (iz 1)), (7, .int (iz so))] dX12_begins_214 rfl (by decide) rfl ?_
                                refine hv_goto C 50 dX12_begins_217 (by decide) ?_
                                refine hv_loc [4, 5, 6, 7, 8, 9, 1, 10, 0] [(0, .ref a0), (1, .int (iz ((k : Nat) : Int))), (2, .int (iz fr)), (3, .int (iz ((xN : Nat) : Int))), (4, .int (iz t)), (5, .int (iz 1)), (6, .int (iz (i9 + 1))), (7, .int (iz so)), (8, .int (iz (((j : Nat) : Int) + 1)))] rfl ?_
                                exact ih50 (i9 + 1) so (j + 1) (by omega) (by omega) (by omega) (by omega) (by rw [hin]; rw [in9]; first | (rw [show di9 (σ 9) (σ 10) (σ 11) (σ 12) xN k t j = 1 by (unfold di9; rw [zy]; first | (rw [if_pos (by omega)]; done) | (rw [if_neg (by omega), if_pos (by omega)]; done))]; done) | (rw [show di9 (σ 9) (σ 10) (σ 11) (σ 12) xN k t j = 0 by (unfold di9; rw [zy, if_neg (by omega), if_neg (by omega)])]; first | done | omega)) (by rw [so9, zy]; first | (rw [if_pos (by omega)]; omega) | (rw [if_neg (by omega)]; omega))
                              · skip
                                have zGj := hG j (by omega)
                                refine hv_aload_n C 0 3 dX12_begins_203 rfl rfl ?_
                                refine mo_geta C K 22 12 (by decide) rfl mo_hw fl_44 rfl dX12_begins_204 ?_
                                refine hv_iload C 8 10 dX12_begins_207 rfl ?_
                                refine mo_iald C K 12 7 j rfl (by omega) (by omega) (by decide) dX12_begins_209 ?_
                                refine hv_nm (fun x43 ex43 => ?_)
                                have rx43 : inI x43 := by rw [ex43]; exact hσ 12 j
                                refine hv_iconst C dX12_begins_210 ?_
                                refine hv_iadd C dX12_begins_211 ?_
                                refine hv_istore C 7 [(7, .int (iz (x43 + 2))), (6, .int (iz (i9 + 1))), (10, .int (iz 0)), (9, .int (iz ((yN : Nat) : Int))), (0, .ref a0), (1, .int (iz ((k : Nat) : Int))), (2, .int (iz fr)), (3, .int (iz ((xN : Nat) : Int))), (4, .int (iz t)), (5, .int (iz 1)), (8, .int (iz ((j : Nat) : Int)))] dX12_begins_212 (by decide) rfl ?_
                                refine hv_iinc C 8 10 [(8, .int (iz (((j : Nat) : Int) + 1))), (7, .int (iz (x43 + 2))), (6, .int (iz (i9 + 1))), (10, .int (iz 0)), (9, .int (iz ((yN : Nat) : Int))), (0, .ref a0), (1, .int (iz ((k : Nat) : Int))), (2, .int (iz fr)), (3, .int (iz ((xN : Nat) : Int))), (4, .int (iz t)), (5, .int (iz 1))] dX12_begins_214 rfl (by decide) rfl ?_
                                refine hv_goto C 50 dX12_begins_217 (by decide) ?_
                                refine hv_loc [5, 6, 7, 8, 9, 10, 2, 1, 0] [(0, .ref a0), (1, .int (iz ((k : Nat) : Int))), (2, .int (iz fr)), (3, .int (iz ((xN : Nat) : Int))), (4, .int (iz t)), (5, .int (iz 1)), (6, .int (iz (i9 + 1))), (7, .int (iz (x43 + 2))), (8, .int (iz (((j : Nat) : Int) + 1)))] rfl ?_
                                exact ih50 (i9 + 1) (x43 + 2) (j + 1) (by omega) (by omega) (by omega) (by omega) (by rw [hin]; rw [in9]; first | (rw [show di9 (σ 9) (σ 10) (σ 11) (σ 12) xN k t j = 1 by (unfold di9; rw [zy]; first | (rw [if_pos (by omega)]; done) | (rw [if_neg (by omega), if_pos (by omega)]; done))]; done) | (rw [show di9 (σ 9) (σ 10) (σ 11) (σ 12) xN k t j = 0 by (unfold di9; rw [zy, if_neg (by omega), if_neg (by omega)])]; first | done | omega)) (by rw [so9, zy]; first | (rw [if_pos (by omega)]; omega) | (rw [if_neg (by omega)]; omega))
                    · skip
                      refine hv_iconst C dX12_begins_122 ?_
                      refine hv_goto C 127 dX12_begins_123 (by decide) ?_
                      refine hv_istore C 10 [(10, .int (iz 1)), (9, .int (iz ((yN : Nat) : Int))), (0, .ref a0), (1, .int (iz ((k : Nat) : Int))), (2, .int (iz fr)), (3, .int (iz ((xN : Nat) : Int))), (4, .int (iz t)), (5, .int (iz 1)), (6, .int (iz i9)), (7, .int (iz so)), (8, .int (iz ((j : Nat) : Int)))] dX12_begins_127 (by decide) rfl ?_
                      refine hv_iload C 6 8 dX12_begins_129 rfl ?_
                      refine hv_aload_n C 0 2 dX12_begins_131 rfl rfl ?_
                      refine mo_geta C K 20 10 (by decide) rfl mo_hw fl_38 rfl dX12_begins_132 ?_
                      refine hv_iload C 9 1 dX12_begins_135 rfl ?_
                      refine mo_zald C K 10 7 yN rfl (by omega) (by omega) (by decide) dX12_begins_137 ?_
                      refine hv_nm (fun x44 ex44 => ?_)
                      have rx44 : inI x44 := by rw [ex44]; exact hσ 10 yN
                      refine hv_if_eq C 155 dX12_begins_138 (by decide) (by omega) (fun h138 => ?_) (fun h138 => ?_)
                      · skip
                        refine hv_iload C 10 0 dX12_begins_155 rfl ?_
                        refine hv_if_eq C 164 dX12_begins_157 (by decide) (by decide) (fun h => absurd h (by decide)) (fun _ => ?_)
                        refine hv_iconst C dX12_begins_160 ?_
                        refine hv_goto C 165 dX12_begins_161 (by decide) ?_
                        refine hv_iadd C dX12_begins_165 ?_
                        refine hv_istore C 6 [(6, .int (iz (i9 + 0))), (10, .int (iz 1)), (9, .int (iz ((yN : Nat) : Int))), (0, .ref a0), (1, .int (iz ((k : Nat) : Int))), (2, .int (iz fr)), (3, .int (iz ((xN : Nat) : Int))), (4, .int (iz t)), (5, .int (iz 1)), (7, .int (iz so)), (8, .int (iz ((j : Nat) : Int)))] dX12_begins_166 (by decide) rfl ?_
                        refine hv_aload_n C 0 3 dX12_begins_168 rfl rfl ?_
                        refine mo_geta C K 20 10 (by decide) rfl mo_hw fl_38 rfl dX12_begins_169 ?_
                        refine hv_iload C 9 2 dX12_begins_172 rfl ?_
                        refine mo_zald C K 10 7 yN rfl (by omega) (by omega) (by decide) dX12_begins_174 ?_
                        refine hv_nm (fun x45 ex45 => ?_)
                        have rx45 : inI x45 := by rw [ex45]; exact hσ 10 yN
                        refine hv_if_ne C 214 dX12_begins_175 (by decide) (by omega) (fun h175 => ?_) (fun h175 => ?_)
                        · skip
                          refine hv_iinc C 8 10 [(8, .int (iz (((j : Nat) : Int) + 1))), (6, .int (iz (i9 + 0))), (10, .int (iz 1)), (9, .int (iz ((yN : Nat) : Int))), (0, .ref a0), (1, .int (iz ((k : Nat) : Int))), (2, .int (iz fr)), (3, .int (iz ((xN : Nat) : Int))), (4, .int (iz t)), (5, .int (iz 1)), (7, .int (iz so))] dX12_begins_214 rfl (by decide) rfl ?_
                          refine hv_goto C 50 dX12_begins_217 (by decide) ?_
                          refine hv_loc [4, 5, 6, 7, 8, 9, 1, 10, 0] [(0, .ref a0), (1, .int (iz ((k : Nat) : Int))), (2, .int (iz fr)), (3, .int (iz ((xN : Nat) : Int))), (4, .int (iz t)), (5, .int (iz 1)), (6, .int (iz (i9 + 0))), (7, .int (iz so)), (8, .int (iz (((j : Nat) : Int) + 1)))] rfl ?_
                          exact ih50 (i9 + 0) so (j + 1) (by omega) (by omega) (by omega) (by omega) (by rw [hin]; rw [in9]; first | (rw [show di9 (σ 9) (σ 10) (σ 11) (σ 12) xN k t j = 1 by (unfold di9; rw [zy]; first | (rw [if_pos (by omega)]; done) | (rw [if_neg (by omega), if_pos (by omega)]; done))]; done) | (rw [show di9 (σ 9) (σ 10) (σ 11) (σ 12) xN k t j = 0 by (unfold di9; rw [zy, if_neg (by omega), if_neg (by omega)])]; first | done | omega)) (by rw [so9, zy]; first | (rw [if_pos (by omega)]; omega) | (rw [if_neg (by omega)]; omega))
                        · skip
                          refine hv_iload C 8 10 dX12_begins_178 rfl ?_
                          refine hv_iload_n C 1 4 dX12_begins_180 rfl rfl ?_
                          refine hv_icmp_ge C 214 dX12_begins_181 (by decide) (by omega) (by omega) (fun h181 => ?_) (fun h181 => ?_)
                          · skip
                            refine hv_iinc C 8 10 [(8, .int (iz (((j : Nat) : Int) + 1))), (6, .int (iz (i9 + 0))), (10, .int (iz 1)), (9, .int (iz ((yN : Nat) : Int))), (0, .ref a0), (1, .int (iz ((k : Nat) : Int))), (2, .int (iz fr)), (3, .int (iz ((xN : Nat) : Int))), (4, .int (iz t)), (5, .int (iz 1)), (7, .int (iz so))] dX12_begins_214 rfl (by decide) rfl ?_
                            refine hv_goto C 50 dX12_begins_217 (by decide) ?_
                            refine hv_loc [4, 5, 6, 7, 8, 9, 1, 10, 0] [(0, .ref a0), (1, .int (iz ((k : Nat) : Int))), (2, .int (iz fr)), (3, .int (iz ((xN : Nat) : Int))), (4, .int (iz t)), (5, .int (iz 1)), (6, .int (iz (i9 + 0))), (7, .int (iz so)), (8, .int (iz (((j : Nat) : Int) + 1)))] rfl ?_
                            exact ih50 (i9 + 0) so (j + 1) (by omega) (by omega) (by omega) (by omega) (by rw [hin]; rw [in9]; first | (rw [show di9 (σ 9) (σ 10) (σ 11) (σ 12) xN k t j = 1 by (unfold di9; rw [zy]; first | (rw [if_pos (by omega)]; done) | (rw [if_neg (by omega), if_pos (by omega)]; done))]; done) | (rw [show di9 (σ 9) (σ 10) (σ 11) (σ 12) xN k t j = 0 by (unfold di9; rw [zy, if_neg (by omega), if_neg (by omega)])]; first | done | omega)) (by rw [so9, zy]; first | (rw [if_pos (by omega)]; omega) | (rw [if_neg (by omega)]; omega))
                          · skip
                            refine hv_iload C 10 1 dX12_begins_184 rfl ?_
                            refine hv_if_ne C 214 dX12_begins_186 (by decide) (by decide) (fun _ => ?_) (fun h => absurd h (by decide))
                            refine hv_iinc C 8 10 [(8, .int (iz (((j : Nat) : Int) + 1))), (6, .int (iz (i9 + 0))), (10, .int (iz 1)), (9, .int (iz ((yN : Nat) : Int))), (0, .ref a0), (1, .int (iz ((k : Nat) : Int))), (2, .int (iz fr)), (3, .int (iz ((xN : Nat) : Int))), (4, .int (iz t)), (5, .int (iz 1)), (7, .int (iz so))] dX12_begins_214 rfl (by decide) rfl ?_
                            refine hv_goto C 50 dX12_begins_217 (by decide) ?_
                            refine hv_loc [4, 5, 6, 7, 8, 9, 1, 10, 0] [(0, .ref a0), (1, .int (iz ((k : Nat) : Int))), (2, .int (iz fr)), (3, .int (iz ((xN : Nat) : Int))), (4, .int (iz t)), (5, .int (iz 1)), (6, .int (iz (i9 + 0))), (7, .int (iz so)), (8, .int (iz (((j : Nat) : Int) + 1)))] rfl ?_
                            exact ih50 (i9 + 0) so (j + 1) (by omega) (by omega) (by omega) (by omega) (by rw [hin]; rw [in9]; first | (rw [show di9 (σ 9) (σ 10) (σ 11) (σ 12) xN k t j = 1 by (unfold di9; rw [zy]; first | (rw [if_pos (by omega)]; done) | (rw [if_neg (by omega), if_pos (by omega)]; done))]; done) | (rw [show di9 (σ 9) (σ 10) (σ 11) (σ 12) xN k t j = 0 by (unfold di9; rw [zy, if_neg (by omega), if_neg (by omega)])]; first | done | omega)) (by rw [so9, zy]; first | (rw [if_pos (by omega)]; omega) | (rw [if_neg (by omega)]; omega))
                      · skip
                        refine hv_iload C 8 10 dX12_begins_141 rfl ?_
                        refine hv_iload_n C 1 3 dX12_begins_143 rfl rfl ?_
                        refine hv_icmp_ge C 151 dX12_begins_144 (by decide) (by omega) (by omega) (fun h144 => ?_) (fun h144 => ?_)
                        · skip
                          refine hv_iconst C dX12_begins_151 ?_
                          refine hv_goto C 165 dX12_begins_152 (by decide) ?_
                          refine hv_iadd C dX12_begins_165 ?_
                          refine hv_istore C 6 [(6, .int (iz (i9 + 0))), (10, .int (iz 1)), (9, .int (iz ((yN : Nat) : Int))), (0, .ref a0), (1, .int (iz ((k : Nat) : Int))), (2, .int (iz fr)), (3, .int (iz ((xN : Nat) : Int))), (4, .int (iz t)), (5, .int (iz 1)), (7, .int (iz so)), (8, .int (iz ((j : Nat) : Int)))] dX12_begins_166 (by decide) rfl ?_
                          refine hv_aload_n C 0 3 dX12_begins_168 rfl rfl ?_
                          refine mo_geta C K 20 10 (by decide) rfl mo_hw fl_38 rfl dX12_begins_169 ?_
                          refine hv_iload C 9 2 dX12_begins_172 rfl ?_
                          refine mo_zald C K 10 7 yN rfl (by omega) (by omega) (by decide) dX12_begins_174 ?_
                          refine hv_nm (fun x46 ex46 => ?_)
                          have rx46 : inI x46 := by rw [ex46]; exact hσ 10 yN
                          refine hv_if_ne C 214 dX12_begins_175 (by decide) (by omega) (fun h175 => ?_) (fun h175 => ?_)
                          · skip
                            refine hv_iinc C 8 10 [(8, .int (iz (((j : Nat) : Int) + 1))), (6, .int (iz (i9 + 0))), (10, .int (iz 1)), (9, .int (iz ((yN : Nat) : Int))), (0, .ref a0), (1, .int (iz ((k : Nat) : Int))), (2, .int (iz fr)), (3, .int (iz ((xN : Nat) : Int))), (4, .int (iz t)), (5, .int (iz 1)), (7, .int (iz so))] dX12_begins_214 rfl (by decide) rfl ?_
                            refine hv_goto C 50 dX12_begins_217 (by decide) ?_
                            refine hv_loc [4, 5, 6, 7, 8, 9, 1, 10, 0] [(0, .ref a0), (1, .int (iz ((k : Nat) : Int))), (2, .int (iz fr)), (3, .int (iz ((xN : Nat) : Int))), (4, .int (iz t)), (5, .int (iz 1)), (6, .int (iz (i9 + 0))), (7, .int (iz so)), (8, .int (iz (((j : Nat) : Int) + 1)))] rfl ?_
                            exact ih50 (i9 + 0) so (j + 1) (by omega) (by omega) (by omega) (by omega) (by rw [hin]; rw [in9]; first | (rw [show di9 (σ 9) (σ 10) (σ 11) (σ 12) xN k t j = 1 by (unfold di9; rw [zy]; first | (rw [if_pos (by omega)]; done) | (rw [if_neg (by omega), if_pos (by omega)]; done))]; done) | (rw [show di9 (σ 9) (σ 10) (σ 11) (σ 12) xN k t j = 0 by (unfold di9; rw [zy, if_neg (by omega), if_neg (by omega)])]; first | done | omega)) (by rw [so9, zy]; first | (rw [if_pos (by omega)]; omega) | (rw [if_neg (by omega)]; omega))
                          · skip
                            refine hv_iload C 8 10 dX12_begins_178 rfl ?_
                            refine hv_iload_n C 1 4 dX12_begins_180 rfl rfl ?_
                            refine hv_icmp_ge C 214 dX12_begins_181 (by decide) (by omega) (by omega) (fun h181 => ?_) (fun h181 => ?_)
                            · skip
                              refine hv_iinc C 8 10 [(8, .int (iz (((j : Nat) : Int) + 1))), (6, .int (iz (i9 + 0))), (10, .int (iz 1)), (9, .int (iz ((yN : Nat) : Int))), (0, .ref a0), (1, .int (iz ((k : Nat) : Int))), (2, .int (iz fr)), (3, .int (iz ((xN : Nat) : Int))), (4, .int (iz t)), (5, .int (iz 1)), (7, .int (iz so))] dX12_begins_214 rfl (by decide) rfl ?_
                              refine hv_goto C 50 dX12_begins_217 (by decide) ?_
                              refine hv_loc [4, 5, 6, 7, 8, 9, 1, 10, 0] [(0, .ref a0), (1, .int (iz ((k : Nat) : Int))), (2, .int (iz fr)), (3, .int (iz ((xN : Nat) : Int))), (4, .int (iz t)), (5, .int (iz 1)), (6, .int (iz (i9 + 0))), (7, .int (iz so)), (8, .int (iz (((j : Nat) : Int) + 1)))] rfl ?_
                              exact ih50 (i9 + 0) so (j + 1) (by omega) (by omega) (by omega) (by omega) (by rw [hin]; rw [in9]; first | (rw [show di9 (σ 9) (σ 10) (σ 11) (σ 12) xN k t j = 1 by (unfold di9; rw [zy]; first | (rw [if_pos (by omega)]; done) | (rw [if_neg (by omega), if_pos (by omega)]; done))]; done) | (rw [show di9 (σ 9) (σ 10) (σ 11) (σ 12) xN k t j = 0 by (unfold di9; rw [zy, if_neg (by omega), if_neg (by omega)])]; first | done | omega)) (by rw [so9, zy]; first | (rw [if_pos (by omega)]; omega) | (rw [if_neg (by omega)]; omega))
                            · skip
                              refine hv_iload C 10 1 dX12_begins_184 rfl ?_
                              refine hv_if_ne C 214 dX12_begins_186 (by decide) (by decide) (fun _ => ?_) (fun h => absurd h (by decide))
                              refine hv_iinc C 8 10 [(8, .int (iz (((j : Nat) : Int) + 1))), (6, .int (iz (i9 + 0))), (10, .int (iz 1)), (9, .int (iz ((yN : Nat) : Int))), (0, .ref a0), (1, .int (iz ((k : Nat) : Int))), (2, .int (iz fr)), (3, .int (iz ((xN : Nat) : Int))), (4, .int (iz t)), (5, .int (iz 1)), (7, .int (iz so))] dX12_begins_214 rfl (by decide) rfl ?_
                              refine hv_goto C 50 dX12_begins_217 (by decide) ?_
                              refine hv_loc [4, 5, 6, 7, 8, 9, 1, 10, 0] [(0, .ref a0), (1, .int (iz ((k : Nat) : Int))), (2, .int (iz fr)), (3, .int (iz ((xN : Nat) : Int))), (4, .int (iz t)), (5, .int (iz 1)), (6, .int (iz (i9 + 0))), (7, .int (iz so)), (8, .int (iz (((j : Nat) : Int) + 1)))] rfl ?_
                              exact ih50 (i9 + 0) so (j + 1) (by omega) (by omega) (by omega) (by omega) (by rw [hin]; rw [in9]; first | (rw [show di9 (σ 9) (σ 10) (σ 11) (σ 12) xN k t j = 1 by (unfold di9; rw [zy]; first | (rw [if_pos (by omega)]; done) | (rw [if_neg (by omega), if_pos (by omega)]; done))]; done) | (rw [show di9 (σ 9) (σ 10) (σ 11) (σ 12) xN k t j = 0 by (unfold di9; rw [zy, if_neg (by omega), if_neg (by omega)])]; first | done | omega)) (by rw [so9, zy]; first | (rw [if_pos (by omega)]; omega) | (rw [if_neg (by omega)]; omega))
                        · skip
                          refine hv_iconst C dX12_begins_147 ?_
                          refine hv_goto C 165 dX12_begins_148 (by decide) ?_
                          refine hv_iadd C dX12_begins_165 ?_
                          refine hv_istore C 6 [(6, .int (iz (i9 + 1))), (10, .int (iz 1)), (9, .int (iz ((yN : Nat) : Int))), (0, .ref a0), (1, .int (iz ((k : Nat) : Int))), (2, .int (iz fr)), (3, .int (iz ((xN : Nat) : Int))), (4, .int (iz t)), (5, .int (iz 1)), (7, .int (iz so)), (8, .int (iz ((j : Nat) : Int)))] dX12_begins_166 (by decide) rfl ?_
                          refine hv_aload_n C 0 3 dX12_begins_168 rfl rfl ?_
                          refine mo_geta C K 20 10 (by decide) rfl mo_hw fl_38 rfl dX12_begins_169 ?_
                          refine hv_iload C 9 2 dX12_begins_172 rfl ?_
                          refine mo_zald C K 10 7 yN rfl (by omega) (by omega) (by decide) dX12_begins_174 ?_
                          refine hv_nm (fun x47 ex47 => ?_)
                          have rx47 : inI x47 := by rw [ex47]; exact hσ 10 yN
                          refine hv_if_ne C 214 dX12_begins_175 (by decide) (by omega) (fun h175 => ?_) (fun h175 => ?_)
                          · skip
                            refine hv_iinc C 8 10 [(8, .int (iz (((j : Nat) : Int) + 1))), (6, .int (iz (i9 + 1))), (10, .int (iz 1)), (9, .int (iz ((yN : Nat) : Int))), (0, .ref a0), (1, .int (iz ((k : Nat) : Int))), (2, .int (iz fr)), (3, .int (iz ((xN : Nat) : Int))), (4, .int (iz t)), (5, .int (iz 1)), (7, .int (iz so))] dX12_begins_214 rfl (by decide) rfl ?_
                            refine hv_goto C 50 dX12_begins_217 (by decide) ?_
                            refine hv_loc [4, 5, 6, 7, 8, 9, 1, 10, 0] [(0, .ref a0), (1, .int (iz ((k : Nat) : Int))), (2, .int (iz fr)), (3, .int (iz ((xN : Nat) : Int))), (4, .int (iz t)), (5, .int (iz 1)), (6, .int (iz (i9 + 1))), (7, .int (iz so)), (8, .int (iz (((j : Nat) : Int) + 1)))] rfl ?_
                            exact ih50 (i9 + 1) so (j + 1) (by omega) (by omega) (by omega) (by omega) (by rw [hin]; rw [in9]; first | (rw [show di9 (σ 9) (σ 10) (σ 11) (σ 12) xN k t j = 1 by (unfold di9; rw [zy]; first | (rw [if_pos (by omega)]; done) | (rw [if_neg (by omega), if_pos (by omega)]; done))]; done) | (rw [show di9 (σ 9) (σ 10) (σ 11) (σ 12) xN k t j = 0 by (unfold di9; rw [zy, if_neg (by omega), if_neg (by omega)])]; first | done | omega)) (by rw [so9, zy]; first | (rw [if_pos (by omega)]; omega) | (rw [if_neg (by omega)]; omega))
                          · skip
                            refine hv_iload C 8 10 dX12_begins_178 rfl ?_
                            refine hv_iload_n C 1 4 dX12_begins_180 rfl rfl ?_
                            refine hv_icmp_ge C 214 dX12_begins_181 (by decide) (by omega) (by omega) (fun h181 => ?_) (fun h181 => ?_)
                            · skip
                              refine hv_iinc C 8 10 [(8, .int (iz (((j : Nat) : Int) + 1))), (6, .int (iz (i9 + 1))), (10, .int (iz 1)), (9, .int (iz ((yN : Nat) : Int))), (0, .ref a0), (1, .int (iz ((k : Nat) : Int))), (2, .int (iz fr)), (3, .int (iz ((xN : Nat) : Int))), (4, .int (iz t)), (5, .int (iz 1)), (7, .int (iz so))] dX12_begins_214 rfl (by decide) rfl ?_
                              refine hv_goto C 50 dX12_begins_217 (by decide) ?_
                              refine hv_loc [4, 5, 6, 7, 8, 9, 1, 10, 0] [(0, .ref a0), (1, .int (iz ((k : Nat) : Int))), (2, .int (iz fr)), (3, .int (iz ((xN : Nat) : Int))), (4, .int (iz t)), (5, .int (iz 1)), (6, .int (iz (i9 + 1))), (7, .int (iz so)), (8, .int (iz (((j : Nat) : Int) + 1)))] rfl ?_
                              exact ih50 (i9 + 1) so (j + 1) (by omega) (by omega) (by omega) (by omega) (by rw [hin]; rw [in9]; first | (rw [show di9 (σ 9) (σ 10) (σ 11) (σ 12) xN k t j = 1 by (unfold di9; rw [zy]; first | (rw [if_pos (by omega)]; done) | (rw [if_neg (by omega), if_pos (by omega)]; done))]; done) | (rw [show di9 (σ 9) (σ 10) (σ 11) (σ 12) xN k t j = 0 by (unfold di9; rw [zy, if_neg (by omega), if_neg (by omega)])]; first | done | omega)) (by rw [so9, zy]; first | (rw [if_pos (by omega)]; omega) | (rw [if_neg (by omega)]; omega))
                            · skip
                              refine hv_iload C 10 1 dX12_begins_184 rfl ?_
                              refine hv_if_ne C 214 dX12_begins_186 (by decide) (by decide) (fun _ => ?_) (fun h => absurd h (by decide))
                              refine hv_iinc C 8 10 [(8, .int (iz (((j : Nat) : Int) + 1))), (6, .int (iz (i9 + 1))), (10, .int (iz 1)), (9, .int (iz ((yN : Nat) : Int))), (0, .ref a0), (1, .int (iz ((k : Nat) : Int))), (2, .int (iz fr)), (3, .int (iz ((xN : Nat) : Int))), (4, .int (iz t)), (5, .int (iz 1)), (7, .int (iz so))] dX12_begins_214 rfl (by decide) rfl ?_
                              refine hv_goto C 50 dX12_begins_217 (by decide) ?_
                              refine hv_loc [4, 5, 6, 7, 8, 9, 1, 10, 0] [(0, .ref a0), (1, .int (iz ((k : Nat) : Int))), (2, .int (iz fr)), (3, .int (iz ((xN : Nat) : Int))), (4, .int (iz t)), (5, .int (iz 1)), (6, .int (iz (i9 + 1))), (7, .int (iz so)), (8, .int (iz (((j : Nat) : Int) + 1)))] rfl ?_
                              exact ih50 (i9 + 1) so (j + 1) (by omega) (by omega) (by omega) (by omega) (by rw [hin]; rw [in9]; first | (rw [show di9 (σ 9) (σ 10) (σ 11) (σ 12) xN k t j = 1 by (unfold di9; rw [zy]; first | (rw [if_pos (by omega)]; done) | (rw [if_neg (by omega), if_pos (by omega)]; done))]; done) | (rw [show di9 (σ 9) (σ 10) (σ 11) (σ 12) xN k t j = 0 by (unfold di9; rw [zy, if_neg (by omega), if_neg (by omega)])]; first | done | omega)) (by rw [so9, zy]; first | (rw [if_pos (by omega)]; omega) | (rw [if_neg (by omega)]; omega))
              · skip
                refine hv_goto C 214 dX12_begins_89 (by decide) ?_
                refine hv_iinc C 8 9 [(8, .int (iz (((j : Nat) : Int) + 1))), (9, .int (iz ((yN : Nat) : Int))), (0, .ref a0), (1, .int (iz ((k : Nat) : Int))), (2, .int (iz fr)), (3, .int (iz ((xN : Nat) : Int))), (4, .int (iz t)), (5, .int (iz 1)), (6, .int (iz i9)), (7, .int (iz so))] dX12_begins_214 rfl (by decide) rfl ?_
                refine hv_goto C 50 dX12_begins_217 (by decide) ?_
                refine hv_loc [2, 3, 4, 5, 6, 7, 8, 9, 0] [(0, .ref a0), (1, .int (iz ((k : Nat) : Int))), (2, .int (iz fr)), (3, .int (iz ((xN : Nat) : Int))), (4, .int (iz t)), (5, .int (iz 1)), (6, .int (iz i9)), (7, .int (iz so)), (8, .int (iz (((j : Nat) : Int) + 1)))] rfl ?_
                exact ih50 i9 so (j + 1) (by omega) (by omega) (by omega) (by omega) (by rw [hin]; rw [in9]; first | (rw [show di9 (σ 9) (σ 10) (σ 11) (σ 12) xN k t j = 1 by (unfold di9; rw [zy]; first | (rw [if_pos (by omega)]; done) | (rw [if_neg (by omega), if_pos (by omega)]; done))]; done) | (rw [show di9 (σ 9) (σ 10) (σ 11) (σ 12) xN k t j = 0 by (unfold di9; rw [zy, if_neg (by omega), if_neg (by omega)])]; first | done | omega)) (by rw [so9, zy]; first | (rw [if_pos (by omega)]; omega) | (rw [if_neg (by omega)]; omega))
        refine hv_loc [3, 4, 5, 6, 7, 8, 2, 1, 0] [(0, .ref a0), (1, .int (iz ((k : Nat) : Int))), (2, .int (iz fr)), (3, .int (iz ((xN : Nat) : Int))), (4, .int (iz t)), (5, .int (iz 1)), (6, .int (iz x4)), (7, .int (iz 1000)), (8, .int (iz 0))] rfl ?_
        exact L50 _ x4 1000 0 (Nat.lt_succ_self _) (by omega) (by omega) (by omega) (by show _ = σ 14 (σ 9 xN).toNat; rw [zwx]; omega) rfl
    refine hv_loc [3, 4, 5, 2, 1, 0] [(0, .ref a0), (1, .int (iz ((k : Nat) : Int))), (2, .int (iz fr)), (3, .int (iz ((xN : Nat) : Int))), (4, .int (iz fr)), (5, .int (iz 1))] rfl ?_
    exact L24 _ fr bF (Nat.lt_succ_self _) (by omega) (by unfold bF; omega) rfl
  · skip
    refine hv_iload_n C 2 3 dX12_begins_16 rfl rfl ?_
    exact mo_iret (Qc := fun _ _ _ _ => True) C hr hlk (by first | exact zv.symm | (unfold be9; rw [zx, if_pos (by omega)])) rfl dX12_begins_17
