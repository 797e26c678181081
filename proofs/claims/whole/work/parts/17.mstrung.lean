section MOS
variable {p : Program} {l : Launch} {e : Env} {R : Room} {s : State} {m : MethodId} {args : Array Value} {below : List Frame} {meth : Method} {c : Code} {nL : Nat} {Q : State → Prop} {pc : Nat} {loc : List (Nat × Value)} {stk : List Value} {D : va_G} {cI cZ : ClassId} {a0 : Nat} {H0 : Heap} {σ : Nat → Nat → Int}
theorem mo_st {σ2 : Nat → Nat → Int} (h : σ = σ2) (k : hvV p l e R s m args below meth c nL (moR a0) 0 0 Q (moI D cI cZ a0 H0 σ2) pc loc stk) : hvV p l e R s m args below meth c nL (moR a0) 0 0 Q (moI D cI cZ a0 H0 σ) pc loc stk := by rw [h]; exact k
end MOS
theorem rg_sA {σ : Nat → Nat → Int} {j : Nat} {f : Nat → Int} (h : rg σ) (g : ∀ i, inI (f i)) : rg (sA σ j f) := by
  intro a i
  unfold sA
  split
  · exact g i
  · exact h a i
theorem in_ua {A : Nat → Int} {k : Nat} {v : Int} (h : ∀ i, inI (A i)) (g : inI v) : ∀ i, inI (ua A k v i) := by
  intro i
  unfold ua
  split
  · exact g
  · exact h i
theorem sA_comm {σ : Nat → Nat → Int} {j k : Nat} (h : j ≠ k) {A B : Nat → Int} : sA (sA σ j A) k B = sA (sA σ k B) j A := by
  funext x
  simp only [sA]
  by_cases h1 : x = k
  · rw [if_pos h1, if_neg (by omega), if_pos h1]
  · rw [if_neg h1, if_neg h1]
theorem ua_comm {A : Nat → Int} {i k : Nat} (h : i ≠ k) {v w : Int} : ua (ua A i v) k w = ua (ua A k w) i v := by
  funext x
  simp only [ua]
  by_cases h1 : x = k
  · rw [if_pos h1, if_neg (by omega), if_pos h1]
  · rw [if_neg h1, if_neg h1]
theorem ua_ua {A : Nat → Int} {i : Nat} {v w : Int} : ua (ua A i v) i w = ua A i w := by
  funext x
  simp only [ua]
  split <;> rfl
def zt (K : Nat → Int) : Nat → (Nat → Int)
  | 0 => K
  | w + 1 => ua (zt K w) w 0
def mz (S : Nat → Int) : Nat → (Nat → Int)
  | 0 => S
  | h + 1 => ua (mz S h) h (-1)
def tw9 (A : Nat → Int) (h bits : Nat) : Nat → Nat
  | 0 => 2 ^ (A (280 + 8 * h + 4)).toNat
  | s + 1 => tw9 A h bits s ||| (if (bits : Int) / 2 ^ s % 2 ^ 1 = 1 then 2 ^ (A (80 + 4 * s + 0)).toNat else 0)
def tk9 (K : Nat → Int) (str : Int) : Nat → (Nat → Int)
  | 0 => K
  | w + 1 => ua (tk9 K str w) w ((tk9 K str w) w + str / 2 ^ w % 2 ^ 1)
def st9 (A K L : Nat → Int) (h : Nat) (d t : Int) : Int := if se A (h : Int) d t (A 2).toNat = 0 then 0 else (bs A K L (tw9 A h (se A (h : Int) d t (A 2).toNat) (A 2).toNat) (2 ^ (A 1).toNat)).1
def sg (A L K0 S0 : Nat → Int) (d t : Int) : Nat → (Nat → Int) × (Nat → Int)
  | 0 => (S0, K0)
  | h + 1 => if thb A h d t = true then (ua (sg A L K0 S0 d t h).1 h (st9 A (sg A L K0 S0 d t h).2 L h d t), if 0 < st9 A (sg A L K0 S0 d t h).2 L h d t then tk9 (sg A L K0 S0 d t h).2 (st9 A (sg A L K0 S0 d t h).2 L h d t) 12 else (sg A L K0 S0 d t h).2) else sg A L K0 S0 d t h
theorem se_lt (A : Nat → Int) (h d t : Int) : ∀ s : Nat, se A h d t s < 2 ^ s
  | 0 => by simp [se]
  | s + 1 => by
    have i1 := se_lt A h d t s
    unfold se
    refine Nat.or_lt_two_pow (Nat.lt_trans i1 (Nat.pow_lt_pow_right (by decide) (by omega))) ?_
    split
    · exact Nat.pow_lt_pow_right (by decide) (by omega)
    · exact Nat.pow_pos (by decide)
theorem bs_in (A K L : Nat → Int) (towns n : Nat) (hn : n ≤ 2 ^ 12) : inI (bs A K L towns n).1 := by
  have h := bs_rng A K L towns n
  exact ⟨by omega, by omega⟩
theorem zt_in {K : Nat → Int} (h : ∀ i, inI (K i)) : ∀ w i, inI (zt K w i)
  | 0, i => h i
  | w + 1, i => in_ua (zt_in h w) (by decide) i
theorem mz_in {S : Nat → Int} (h : ∀ i, inI (S i)) : ∀ w i, inI (mz S w i)
  | 0, i => h i
  | w + 1, i => in_ua (mz_in h w) (by decide) i
theorem zt_0 (K : Nat → Int) : ∀ w i, i < w → zt K w i = 0
  | 0, i, h => absurd h (Nat.not_lt_zero i)
  | w + 1, i, h => by
    unfold zt ua
    split
    · rfl
    · exact zt_0 K w i (by omega)
theorem tk_lo {K : Nat → Int} {str b : Int} (h : ∀ i, i < 12 → 0 ≤ K i ∧ K i ≤ b) : ∀ w i, i < 12 → 0 ≤ tk9 K str w i ∧ tk9 K str w i ≤ b + (if i < w then 1 else 0)
  | 0, i, hi => by simpa [tk9] using h i hi
  | w + 1, i, hi => by
    have a1 := tk_lo (str := str) h w i hi
    unfold tk9 ua
    split
    · next q =>
      subst q
      rw [if_neg (Nat.lt_irrefl _)] at a1
      rw [if_pos (Nat.lt_succ_self _)]
      omega
    · next q =>
      by_cases z : i < w
      · rw [if_pos z] at a1; rw [if_pos (by omega)]; exact a1
      · rw [if_neg z] at a1; rw [if_neg (by omega)]; exact a1
theorem tk_hi {K : Nat → Int} {str : Int} {i : Nat} (hi : 12 ≤ i) : ∀ w, w ≤ 12 → tk9 K str w i = K i
  | 0, _ => rfl
  | w + 1, h => by
    unfold tk9
    rw [ua_ne _ _ (by omega)]
    exact tk_hi hi w (by omega)
theorem tk_in {K : Nat → Int} {str b : Int} (hr : ∀ i, inI (K i)) (h : ∀ i, i < 12 → 0 ≤ K i ∧ K i ≤ b) (hb : b ≤ 1000) (w : Nat) (hw : w ≤ 12) : ∀ i, inI (tk9 K str w i) := by
  intro i
  rcases Nat.lt_or_ge i 12 with q | q
  · have z := tk_lo (str := str) h w i q
    split at z
    · exact ⟨by omega, by omega⟩
    · exact ⟨by omega, by omega⟩
  · rw [tk_hi q w hw]; exact hr i
theorem tk_up {K : Nat → Int} {str : Int} {n : Nat} (h : ∀ i, i < 12 → 0 ≤ K i ∧ K i ≤ (n : Int)) (w i : Nat) (q : i < 12) : 0 ≤ tk9 K str w i ∧ tk9 K str w i ≤ ((n + 1 : Nat) : Int) := by
  have z := tk_lo (str := str) h w i q
  split at z
  · exact ⟨by omega, by omega⟩
  · exact ⟨by omega, by omega⟩
def nh9 (A : Nat → Int) (upTo : Int) : Nat := if upTo + 1 < A 4 then (upTo + 1).toNat else (A 4).toNat

theorem dX12_strung_0 : decode cX12_strung 0 = .ok (.aload_n 0, 1) := by decide +kernel
theorem dX12_strung_1 : decode cX12_strung 1 = .ok (.invokevirtual 243, 3) := by decide +kernel
theorem dX12_strung_4 : decode cX12_strung 4 = .ok (.iconst 0, 1) := by decide +kernel
theorem dX12_strung_5 : decode cX12_strung 5 = .ok (.istore 4, 2) := by decide +kernel
theorem dX12_strung_7 : decode cX12_strung 7 = .ok (.iload 4, 2) := by decide +kernel
theorem dX12_strung_9 : decode cX12_strung 9 = .ok (.bipush 12, 2) := by decide +kernel
theorem dX12_strung_11 : decode cX12_strung 11 = .ok (.if_icmp .ge 17, 3) := by decide +kernel
theorem dX12_strung_14 : decode cX12_strung 14 = .ok (.aload_n 0, 1) := by decide +kernel
theorem dX12_strung_15 : decode cX12_strung 15 = .ok (.getfield 26, 3) := by decide +kernel
theorem dX12_strung_18 : decode cX12_strung 18 = .ok (.iload 4, 2) := by decide +kernel
theorem dX12_strung_20 : decode cX12_strung 20 = .ok (.iconst 0, 1) := by decide +kernel
theorem dX12_strung_21 : decode cX12_strung 21 = .ok (.iastore, 1) := by decide +kernel
theorem dX12_strung_22 : decode cX12_strung 22 = .ok (.iinc 4 1, 3) := by decide +kernel
theorem dX12_strung_25 : decode cX12_strung 25 = .ok (.goto (-18), 3) := by decide +kernel
theorem dX12_strung_28 : decode cX12_strung 28 = .ok (.iconst 0, 1) := by decide +kernel
theorem dX12_strung_29 : decode cX12_strung 29 = .ok (.istore 4, 2) := by decide +kernel
theorem dX12_strung_31 : decode cX12_strung 31 = .ok (.iload 4, 2) := by decide +kernel
theorem dX12_strung_33 : decode cX12_strung 33 = .ok (.bipush 24, 2) := by decide +kernel
theorem dX12_strung_35 : decode cX12_strung 35 = .ok (.if_icmp .ge 17, 3) := by decide +kernel
theorem dX12_strung_38 : decode cX12_strung 38 = .ok (.aload_n 0, 1) := by decide +kernel
theorem dX12_strung_39 : decode cX12_strung 39 = .ok (.getfield 23, 3) := by decide +kernel
theorem dX12_strung_42 : decode cX12_strung 42 = .ok (.iload 4, 2) := by decide +kernel
theorem dX12_strung_44 : decode cX12_strung 44 = .ok (.iconst (-1), 1) := by decide +kernel
theorem dX12_strung_45 : decode cX12_strung 45 = .ok (.iastore, 1) := by decide +kernel
theorem dX12_strung_46 : decode cX12_strung 46 = .ok (.iinc 4 1, 3) := by decide +kernel
theorem dX12_strung_49 : decode cX12_strung 49 = .ok (.goto (-18), 3) := by decide +kernel
theorem dX12_strung_52 : decode cX12_strung 52 = .ok (.iconst 0, 1) := by decide +kernel
theorem dX12_strung_53 : decode cX12_strung 53 = .ok (.istore 4, 2) := by decide +kernel
theorem dX12_strung_55 : decode cX12_strung 55 = .ok (.iload 4, 2) := by decide +kernel
theorem dX12_strung_57 : decode cX12_strung 57 = .ok (.aload_n 0, 1) := by decide +kernel
theorem dX12_strung_58 : decode cX12_strung 58 = .ok (.getfield 7, 3) := by decide +kernel
theorem dX12_strung_61 : decode cX12_strung 61 = .ok (.iconst 4, 1) := by decide +kernel
theorem dX12_strung_62 : decode cX12_strung 62 = .ok (.iaload, 1) := by decide +kernel
theorem dX12_strung_63 : decode cX12_strung 63 = .ok (.if_icmp .ge 169, 3) := by decide +kernel
theorem dX12_strung_66 : decode cX12_strung 66 = .ok (.iload 4, 2) := by decide +kernel
theorem dX12_strung_68 : decode cX12_strung 68 = .ok (.iload_n 3, 1) := by decide +kernel
theorem dX12_strung_69 : decode cX12_strung 69 = .ok (.if_icmp .gt 163, 3) := by decide +kernel
theorem dX12_strung_72 : decode cX12_strung 72 = .ok (.aload_n 0, 1) := by decide +kernel
theorem dX12_strung_73 : decode cX12_strung 73 = .ok (.iload 4, 2) := by decide +kernel
theorem dX12_strung_75 : decode cX12_strung 75 = .ok (.iload_n 1, 1) := by decide +kernel
theorem dX12_strung_76 : decode cX12_strung 76 = .ok (.iload_n 2, 1) := by decide +kernel
theorem dX12_strung_77 : decode cX12_strung 77 = .ok (.invokevirtual 225, 3) := by decide +kernel
theorem dX12_strung_80 : decode cX12_strung 80 = .ok (.ifCond .ne 6, 3) := by decide +kernel
theorem dX12_strung_83 : decode cX12_strung 83 = .ok (.goto 143, 3) := by decide +kernel
theorem dX12_strung_86 : decode cX12_strung 86 = .ok (.aload_n 0, 1) := by decide +kernel
theorem dX12_strung_87 : decode cX12_strung 87 = .ok (.iload 4, 2) := by decide +kernel
theorem dX12_strung_89 : decode cX12_strung 89 = .ok (.iload_n 1, 1) := by decide +kernel
theorem dX12_strung_90 : decode cX12_strung 90 = .ok (.iload_n 2, 1) := by decide +kernel
theorem dX12_strung_91 : decode cX12_strung 91 = .ok (.invokevirtual 234, 3) := by decide +kernel
theorem dX12_strung_94 : decode cX12_strung 94 = .ok (.istore 5, 2) := by decide +kernel
theorem dX12_strung_96 : decode cX12_strung 96 = .ok (.iconst 1, 1) := by decide +kernel
theorem dX12_strung_97 : decode cX12_strung 97 = .ok (.aload_n 0, 1) := by decide +kernel
theorem dX12_strung_98 : decode cX12_strung 98 = .ok (.iload 4, 2) := by decide +kernel
theorem dX12_strung_100 : decode cX12_strung 100 = .ok (.iconst 4, 1) := by decide +kernel
theorem dX12_strung_101 : decode cX12_strung 101 = .ok (.invokevirtual 67, 3) := by decide +kernel
theorem dX12_strung_104 : decode cX12_strung 104 = .ok (.ishl, 1) := by decide +kernel
theorem dX12_strung_105 : decode cX12_strung 105 = .ok (.istore 6, 2) := by decide +kernel
theorem dX12_strung_107 : decode cX12_strung 107 = .ok (.iconst 0, 1) := by decide +kernel
theorem dX12_strung_108 : decode cX12_strung 108 = .ok (.istore 7, 2) := by decide +kernel
theorem dX12_strung_110 : decode cX12_strung 110 = .ok (.iload 7, 2) := by decide +kernel
theorem dX12_strung_112 : decode cX12_strung 112 = .ok (.aload_n 0, 1) := by decide +kernel
theorem dX12_strung_113 : decode cX12_strung 113 = .ok (.getfield 7, 3) := by decide +kernel
theorem dX12_strung_116 : decode cX12_strung 116 = .ok (.iconst 2, 1) := by decide +kernel
theorem dX12_strung_117 : decode cX12_strung 117 = .ok (.iaload, 1) := by decide +kernel
theorem dX12_strung_118 : decode cX12_strung 118 = .ok (.if_icmp .ge 38, 3) := by decide +kernel
theorem dX12_strung_121 : decode cX12_strung 121 = .ok (.iload 6, 2) := by decide +kernel
theorem dX12_strung_123 : decode cX12_strung 123 = .ok (.iload 5, 2) := by decide +kernel
theorem dX12_strung_125 : decode cX12_strung 125 = .ok (.iload 7, 2) := by decide +kernel
theorem dX12_strung_127 : decode cX12_strung 127 = .ok (.ishr, 1) := by decide +kernel
theorem dX12_strung_128 : decode cX12_strung 128 = .ok (.iconst 1, 1) := by decide +kernel
theorem dX12_strung_129 : decode cX12_strung 129 = .ok (.iand, 1) := by decide +kernel
theorem dX12_strung_130 : decode cX12_strung 130 = .ok (.iconst 1, 1) := by decide +kernel
theorem dX12_strung_131 : decode cX12_strung 131 = .ok (.if_icmp .ne 15, 3) := by decide +kernel
theorem dX12_strung_134 : decode cX12_strung 134 = .ok (.iconst 1, 1) := by decide +kernel
theorem dX12_strung_135 : decode cX12_strung 135 = .ok (.aload_n 0, 1) := by decide +kernel
theorem dX12_strung_136 : decode cX12_strung 136 = .ok (.iload 7, 2) := by decide +kernel
theorem dX12_strung_138 : decode cX12_strung 138 = .ok (.iconst 0, 1) := by decide +kernel
theorem dX12_strung_139 : decode cX12_strung 139 = .ok (.invokevirtual 189, 3) := by decide +kernel
theorem dX12_strung_142 : decode cX12_strung 142 = .ok (.ishl, 1) := by decide +kernel
theorem dX12_strung_143 : decode cX12_strung 143 = .ok (.goto 4, 3) := by decide +kernel
theorem dX12_strung_146 : decode cX12_strung 146 = .ok (.iconst 0, 1) := by decide +kernel
theorem dX12_strung_147 : decode cX12_strung 147 = .ok (.ior, 1) := by decide +kernel
theorem dX12_strung_148 : decode cX12_strung 148 = .ok (.istore 6, 2) := by decide +kernel
theorem dX12_strung_150 : decode cX12_strung 150 = .ok (.iinc 7 1, 3) := by decide +kernel
theorem dX12_strung_153 : decode cX12_strung 153 = .ok (.goto (-43), 3) := by decide +kernel
theorem dX12_strung_156 : decode cX12_strung 156 = .ok (.aload_n 0, 1) := by decide +kernel
theorem dX12_strung_157 : decode cX12_strung 157 = .ok (.getfield 23, 3) := by decide +kernel
theorem dX12_strung_160 : decode cX12_strung 160 = .ok (.iload 4, 2) := by decide +kernel
theorem dX12_strung_162 : decode cX12_strung 162 = .ok (.iload 5, 2) := by decide +kernel
theorem dX12_strung_164 : decode cX12_strung 164 = .ok (.ifCond .ne 7, 3) := by decide +kernel
theorem dX12_strung_167 : decode cX12_strung 167 = .ok (.iconst 0, 1) := by decide +kernel
theorem dX12_strung_168 : decode cX12_strung 168 = .ok (.goto 9, 3) := by decide +kernel
theorem dX12_strung_171 : decode cX12_strung 171 = .ok (.aload_n 0, 1) := by decide +kernel
theorem dX12_strung_172 : decode cX12_strung 172 = .ok (.iload 6, 2) := by decide +kernel
theorem dX12_strung_174 : decode cX12_strung 174 = .ok (.invokevirtual 246, 3) := by decide +kernel
theorem dX12_strung_177 : decode cX12_strung 177 = .ok (.iastore, 1) := by decide +kernel
theorem dX12_strung_178 : decode cX12_strung 178 = .ok (.iconst 0, 1) := by decide +kernel
theorem dX12_strung_179 : decode cX12_strung 179 = .ok (.istore 7, 2) := by decide +kernel
theorem dX12_strung_181 : decode cX12_strung 181 = .ok (.iload 7, 2) := by decide +kernel
theorem dX12_strung_183 : decode cX12_strung 183 = .ok (.bipush 12, 2) := by decide +kernel
theorem dX12_strung_185 : decode cX12_strung 185 = .ok (.if_icmp .ge 41, 3) := by decide +kernel
theorem dX12_strung_188 : decode cX12_strung 188 = .ok (.aload_n 0, 1) := by decide +kernel
theorem dX12_strung_189 : decode cX12_strung 189 = .ok (.getfield 23, 3) := by decide +kernel
theorem dX12_strung_192 : decode cX12_strung 192 = .ok (.iload 4, 2) := by decide +kernel
theorem dX12_strung_194 : decode cX12_strung 194 = .ok (.iaload, 1) := by decide +kernel
theorem dX12_strung_195 : decode cX12_strung 195 = .ok (.ifCond .le 31, 3) := by decide +kernel
theorem dX12_strung_198 : decode cX12_strung 198 = .ok (.aload_n 0, 1) := by decide +kernel
theorem dX12_strung_199 : decode cX12_strung 199 = .ok (.getfield 26, 3) := by decide +kernel
theorem dX12_strung_202 : decode cX12_strung 202 = .ok (.iload 7, 2) := by decide +kernel
theorem dX12_strung_204 : decode cX12_strung 204 = .ok (.dup2, 1) := by decide +kernel
theorem dX12_strung_205 : decode cX12_strung 205 = .ok (.iaload, 1) := by decide +kernel
theorem dX12_strung_206 : decode cX12_strung 206 = .ok (.aload_n 0, 1) := by decide +kernel
theorem dX12_strung_207 : decode cX12_strung 207 = .ok (.getfield 23, 3) := by decide +kernel
theorem dX12_strung_210 : decode cX12_strung 210 = .ok (.iload 4, 2) := by decide +kernel
theorem dX12_strung_212 : decode cX12_strung 212 = .ok (.iaload, 1) := by decide +kernel
theorem dX12_strung_213 : decode cX12_strung 213 = .ok (.iload 7, 2) := by decide +kernel
theorem dX12_strung_215 : decode cX12_strung 215 = .ok (.ishr, 1) := by decide +kernel
theorem dX12_strung_216 : decode cX12_strung 216 = .ok (.iconst 1, 1) := by decide +kernel
theorem dX12_strung_217 : decode cX12_strung 217 = .ok (.iand, 1) := by decide +kernel
theorem dX12_strung_218 : decode cX12_strung 218 = .ok (.iadd, 1) := by decide +kernel
theorem dX12_strung_219 : decode cX12_strung 219 = .ok (.iastore, 1) := by decide +kernel
theorem dX12_strung_220 : decode cX12_strung 220 = .ok (.iinc 7 1, 3) := by decide +kernel
theorem dX12_strung_223 : decode cX12_strung 223 = .ok (.goto (-42), 3) := by decide +kernel
theorem dX12_strung_226 : decode cX12_strung 226 = .ok (.iinc 4 1, 3) := by decide +kernel
theorem dX12_strung_229 : decode cX12_strung 229 = .ok (.goto (-174), 3) := by decide +kernel
theorem dX12_strung_232 : decode cX12_strung 232 = .ok (.return_, 1) := by decide +kernel
set_option maxRecDepth 100000 in
set_option maxHeartbeats 4000000 in
theorem k_strung (l : Launch) {D : va_G} {cI cZ : ClassId} {a0 : Nat} (σ : Nat → Nat → Int) (d : Int) (t : Int) (upTo : Int) (hσ : rg σ) (hc : cn (σ 1)) (hs : si (σ 1)) (hh : hi (σ 1)) (hl : li (σ 1)) (hwi : wi (σ 1)) (hd : 0 ≤ d ∧ d ≤ 199) (ht : 0 ≤ t ∧ t ≤ 50) (hu : -1 ≤ upTo ∧ upTo ≤ 23) (hLr : ∀ i, inI ((ms (σ 1) (σ 7) ((σ 1) 1).toNat) i)) : moM l D cI cZ a0 yX12_strung cX12_strung 8 none 9 227 [.ref a0, .int (iz d), .int (iz t), .int (iz upTo)] σ none (sA (sA (sA σ 5 (sg (σ 1) (ms (σ 1) (σ 7) ((σ 1) 1).toNat) (zt (σ 6) 12) (mz (σ 5) 24) d t (nh9 (σ 1) upTo)).1) 6 (sg (σ 1) (ms (σ 1) (σ 7) ((σ 1) 1).toNat) (zt (σ 6) 12) (mz (σ 5) 24) d t (nh9 (σ 1) upTo)).2) 7 (ms (σ 1) (σ 7) ((σ 1) 1).toNat)) := by
  refine mo_start (by decide) rfl (Nat.le_of_ble_eq_true rfl) ?_
  intro p e s m args below meth c C K hr hlk
  have hp12 : (2 : Nat) ^ (σ 1 1).toNat ≤ 2 ^ 12 := Nat.pow_le_pow_right (by decide) (by omega)
  have hp8 : (2 : Nat) ^ (σ 1 2).toNat ≤ 2 ^ 8 := Nat.pow_le_pow_right (by decide) (by omega)
  refine hv_aload_n C 0 0 dX12_strung_0 rfl rfl ?_
  refine mo_call [] [] C K (k_measures l σ  hσ hc) ck_measures (by decide) rfl (Nat.le_of_ble_eq_true rfl) dX12_strung_1 ?_
  refine mo_st (σ2 := sA σ 7 (ms (σ 1) (σ 7) ((σ 1) 1).toNat)) (by first | rfl | (funext x9; simp only [u2, sA]; (repeat' split) <;> first | rfl | (exfalso; omega) | (subst_vars; rfl))) ?_
  refine hv_iconst C dX12_strung_4 ?_
  refine hv_istore C 4 [(4, .int (iz 0)), (0, .ref a0), (1, .int (iz d)), (2, .int (iz t)), (3, .int (iz upTo))] dX12_strung_5 (by decide) rfl ?_
  have L7 : ∀ (f : Nat) (w : Nat) (KA : Nat → Int), 12 - w < f → (w ≤ 12) → (KA = zt (σ 6) w) → hvV p l e { frames := 9, cells := 0, slots := 0, locals := 227 } s m args below meth c 8 (moR a0) 0 0 (MQ below (moQ D cI cZ a0 none (sA (sA (sA σ 5 (sg (σ 1) (ms (σ 1) (σ 7) ((σ 1) 1).toNat) (zt (σ 6) 12) (mz (σ 5) 24) d t (nh9 (σ 1) upTo)).1) 6 (sg (σ 1) (ms (σ 1) (σ 7) ((σ 1) 1).toNat) (zt (σ 6) 12) (mz (σ 5) 24) d t (nh9 (σ 1) upTo)).2) 7 (ms (σ 1) (σ 7) ((σ 1) 1).toNat))) args s 0 0 (moR a0)) (moI D cI cZ a0 s.heap (sA (sA σ 6 KA) 7 (ms (σ 1) (σ 7) ((σ 1) 1).toNat))) 7 [(0, .ref a0), (1, .int (iz d)), (2, .int (iz t)), (3, .int (iz upTo)), (4, .int (iz ((w : Nat) : Int)))] [] := by
    intro f
    induction f with
    | zero => intro _ _ hm; exact absurd hm (Nat.not_lt_zero _)
    | succ f ih7 =>
      intro w KA hm7 hw hK
      refine hv_iload C 4 4 dX12_strung_7 rfl ?_
      refine hv_bipush C dX12_strung_9 (by decide) ?_
      refine hv_icmp_ge C 28 dX12_strung_11 (by decide) (by omega) (by omega) (fun h11 => ?_) (fun h11 => ?_)
      · skip
        refine hv_iconst C dX12_strung_28 ?_
        refine hv_istore C 4 [(4, .int (iz 0)), (0, .ref a0), (1, .int (iz d)), (2, .int (iz t)), (3, .int (iz upTo))] dX12_strung_29 (by decide) rfl ?_
        have L31 : ∀ (f : Nat) (h9 : Nat) (S9 : Nat → Int), 24 - h9 < f → (h9 ≤ 24) → (S9 = mz (σ 5) h9) → hvV p l e { frames := 9, cells := 0, slots := 0, locals := 227 } s m args below meth c 8 (moR a0) 0 0 (MQ below (moQ D cI cZ a0 none (sA (sA (sA σ 5 (sg (σ 1) (ms (σ 1) (σ 7) ((σ 1) 1).toNat) (zt (σ 6) 12) (mz (σ 5) 24) d t (nh9 (σ 1) upTo)).1) 6 (sg (σ 1) (ms (σ 1) (σ 7) ((σ 1) 1).toNat) (zt (σ 6) 12) (mz (σ 5) 24) d t (nh9 (σ 1) upTo)).2) 7 (ms (σ 1) (σ 7) ((σ 1) 1).toNat))) args s 0 0 (moR a0)) (moI D cI cZ a0 s.heap (sA (sA (sA σ 5 S9) 6 KA) 7 (ms (σ 1) (σ 7) ((σ 1) 1).toNat))) 31 [(0, .ref a0), (1, .int (iz d)), (2, .int (iz t)), (3, .int (iz upTo)), (4, .int (iz ((h9 : Nat) : Int)))] [] := by
          intro f
          induction f with
          | zero => intro _ _ hm; exact absurd hm (Nat.not_lt_zero _)
          | succ f ih31 =>
            intro h9 S9 hm31 hh9 hS9
            refine hv_iload C 4 4 dX12_strung_31 rfl ?_
            refine hv_bipush C dX12_strung_33 (by decide) ?_
            refine hv_icmp_ge C 52 dX12_strung_35 (by decide) (by omega) (by omega) (fun h35 => ?_) (fun h35 => ?_)
            · skip
              refine hv_iconst C dX12_strung_52 ?_
              refine hv_istore C 4 [(4, .int (iz 0)), (0, .ref a0), (1, .int (iz d)), (2, .int (iz t)), (3, .int (iz upTo))] dX12_strung_53 (by decide) rfl ?_
              have L55 : ∀ (f : Nat) (h : Nat) (K2 : Nat → Int) (S2 : Nat → Int), (σ 1 4).toNat - h < f → ((h : Int) ≤ σ 1 4) → ((h : Int) ≤ upTo + 1) → (S2 = (sg (σ 1) (ms (σ 1) (σ 7) ((σ 1) 1).toNat) KA S9 d t h).1) → (K2 = (sg (σ 1) (ms (σ 1) (σ 7) ((σ 1) 1).toNat) KA S9 d t h).2) → (∀ i, inI (K2 i)) → (∀ i, i < 12 → 0 ≤ K2 i ∧ K2 i ≤ (h : Int)) → (∀ i, inI (S2 i)) → hvV p l e { frames := 9, cells := 0, slots := 0, locals := 227 } s m args below meth c 8 (moR a0) 0 0 (MQ below (moQ D cI cZ a0 none (sA (sA (sA σ 5 (sg (σ 1) (ms (σ 1) (σ 7) ((σ 1) 1).toNat) (zt (σ 6) 12) (mz (σ 5) 24) d t (nh9 (σ 1) upTo)).1) 6 (sg (σ 1) (ms (σ 1) (σ 7) ((σ 1) 1).toNat) (zt (σ 6) 12) (mz (σ 5) 24) d t (nh9 (σ 1) upTo)).2) 7 (ms (σ 1) (σ 7) ((σ 1) 1).toNat))) args s 0 0 (moR a0)) (moI D cI cZ a0 s.heap (sA (sA (sA σ 5 S2) 6 K2) 7 (ms (σ 1) (σ 7) ((σ 1) 1).toNat))) 55 [(0, .ref a0), (1, .int (iz d)), (2, .int (iz t)), (3, .int (iz upTo)), (4, .int (iz ((h : Nat) : Int)))] [] := by
                intro f
                induction f with
                | zero => intro _ _ _ hm; exact absurd hm (Nat.not_lt_zero _)
                | succ f ih55 =>
                  intro h K2 S2 hm55 hh0 hh1 hS2 hK2 hKr hKr2 hSr
                  refine hv_iload C 4 4 dX12_strung_55 rfl ?_
                  refine hv_aload_n C 0 0 dX12_strung_57 rfl rfl ?_
                  refine mo_geta C K 0 1 (by decide) rfl mo_hw fl_7 rfl dX12_strung_58 ?_
                  refine hv_iconst C dX12_strung_61 ?_
                  refine mo_iald C K 1 9040 4 rfl (by omega) (by omega) (by decide) dX12_strung_62 ?_
                  refine hv_as (σ 1 4) rfl ?_
                  refine hv_nm (fun x1 ex1 => ?_)
                  have rx1 : inI x1 := by rw [ex1]; exact hσ 1 4
                  refine hv_icmp_ge C 232 dX12_strung_63 (by decide) (by omega) (by omega) (fun h63 => ?_) (fun h63 => ?_)
                  · skip
                    exact mo_vret (Qc := fun _ _ _ _ => True) C hr hlk (by have zn : nh9 (σ 1) upTo = h := (by unfold nh9; split <;> omega); have zw : w = 12 := (by omega); have z9 : h9 = 24 := (by omega); rw [zn, hS2, hK2, hK, hS9, zw, z9]) dX12_strung_232
                  · skip
                    refine hv_iload C 4 4 dX12_strung_66 rfl ?_
                    refine hv_iload_n C 3 3 dX12_strung_68 rfl rfl ?_
                    refine hv_icmp_gt C 232 dX12_strung_69 (by decide) (by omega) (by omega) (fun h69 => ?_) (fun h69 => ?_)
                    · skip
                      exact mo_vret (Qc := fun _ _ _ _ => True) C hr hlk (by have zn : nh9 (σ 1) upTo = h := (by unfold nh9; split <;> omega); have zw : w = 12 := (by omega); have z9 : h9 = 24 := (by omega); rw [zn, hS2, hK2, hK, hS9, zw, z9]) dX12_strung_232
                    · skip
                      have a2 := hh h (by omega)
                      refine hv_aload_n C 0 0 dX12_strung_72 rfl rfl ?_
                      refine hv_iload C 4 4 dX12_strung_73 rfl ?_
                      refine hv_iload_n C 1 1 dX12_strung_75 rfl rfl ?_
                      refine hv_iload_n C 2 2 dX12_strung_76 rfl rfl ?_
                      refine mo_call [.int (iz ((h : Nat) : Int)), .int (iz d), .int (iz t)] [] C K (k_isThen l (sA (sA (sA σ 5 S2) 6 K2) 7 (ms (σ 1) (σ 7) ((σ 1) 1).toNat)) h d t (by repeat (first | assumption | refine rg_sA ?_ ?_ | refine in_ua ?_ (by omega) | exact fun _ => hσ _ _)) hc hh (by show (h : Int) < σ 1 4; omega) (by omega) (by omega)) ck_isThen (by decide) rfl (Nat.le_of_ble_eq_true rfl) dX12_strung_77 ?_
                      refine hv_as (xb (decide (((σ 1) 9 = -1 ∨ (σ 1) (280 + 8 * h + 7) ≤ (σ 1) 9) ∧ (σ 1) (280 + 8 * h + 1) = d ∧ ((σ 1) (280 + 8 * h + 2) ≤ t ∧ t ≤ (σ 1) (280 + 8 * h + 2) + (σ 1) (280 + 8 * h + 3) - 1)))) rfl ?_
                      refine hv_dif_ne C 86 dX12_strung_80 (by decide)  (fun h80 => ?_) (fun h80 => ?_)
                      · skip
                        have t80 : thb (σ 1) h d t = true := decide_eq_true h80
                        refine hv_aload_n C 0 0 dX12_strung_86 rfl rfl ?_
                        refine hv_iload C 4 4 dX12_strung_87 rfl ?_
                        refine hv_iload_n C 1 1 dX12_strung_89 rfl rfl ?_
                        refine hv_iload_n C 2 2 dX12_strung_90 rfl rfl ?_
                        refine mo_call [.int (iz ((h : Nat) : Int)), .int (iz d), .int (iz t)] [] C K (k_senders l (sA (sA (sA σ 5 S2) 6 K2) 7 (ms (σ 1) (σ 7) ((σ 1) 1).toNat)) ((h : Nat) : Int) d t (by repeat (first | assumption | refine rg_sA ?_ ?_ | refine in_ua ?_ (by omega) | exact fun _ => hσ _ _)) hc hs hh hl (by omega) (by omega) (by omega)) ck_senders (by decide) rfl (Nat.le_of_ble_eq_true rfl) dX12_strung_91 ?_
                        refine hv_as (((se (σ 1) ((h : Nat) : Int) d t ((σ 1) 2).toNat : Nat) : Int)) rfl ?_
                        refine hv_as (((se (σ 1) (h : Int) d t (σ 1 2).toNat : Nat) : Int)) rfl ?_
                        have zse := se_lt (σ 1) (h : Int) d t (σ 1 2).toNat
                        refine hv_istore C 5 [(5, .int (iz ((se (σ 1) (h : Int) d t (σ 1 2).toNat : Nat) : Int))), (0, .ref a0), (1, .int (iz d)), (2, .int (iz t)), (3, .int (iz upTo)), (4, .int (iz ((h : Nat) : Int)))] dX12_strung_94 (by decide) rfl ?_
                        refine hv_iconst C dX12_strung_96 ?_
                        refine hv_aload_n C 0 1 dX12_strung_97 rfl rfl ?_
                        refine hv_iload C 4 5 dX12_strung_98 rfl ?_
                        refine hv_iconst C dX12_strung_100 ?_
                        refine mo_call [.int (iz ((h : Nat) : Int)), .int (iz 4)] [.int (iz 1)] C K (k_hourOf l (sA (sA (sA σ 5 S2) 6 K2) 7 (ms (σ 1) (σ 7) ((σ 1) 1).toNat)) h 4 (by omega) (by omega)) ck_hourOf (by decide) rfl (Nat.le_of_ble_eq_true rfl) dX12_strung_101 ?_
                        refine hv_as (((σ 1) ((280 + (8 * h)) + 4))) rfl ?_
                        refine hv_nm (fun x2 ex2 => ?_)
                        have rx2 : inI x2 := by rw [ex2]; exact hσ _ _
                        obtain ⟨nt, rfl⟩ : ∃ n : Nat, x2 = (n : Int) := ⟨(x2).toNat, by omega⟩
                        refine hv_ishl1 C nt (by omega) (by omega) dX12_strung_104 ?_
                        refine hv_as (((2 ^ nt : Nat) : Int)) (by simp) ?_
                        have znt : (σ 1 (280 + 8 * h + 4)).toNat = nt := by omega
                        refine hv_istore C 6 [(6, .int (iz ((2 ^ nt : Nat) : Int))), (5, .int (iz ((se (σ 1) (h : Int) d t (σ 1 2).toNat : Nat) : Int))), (0, .ref a0), (1, .int (iz d)), (2, .int (iz t)), (3, .int (iz upTo)), (4, .int (iz ((h : Nat) : Int)))] dX12_strung_105 (by decide) rfl ?_
                        refine hv_iconst C dX12_strung_107 ?_
                        refine hv_istore C 7 [(7, .int (iz 0)), (6, .int (iz ((2 ^ nt : Nat) : Int))), (5, .int (iz ((se (σ 1) (h : Int) d t (σ 1 2).toNat : Nat) : Int))), (0, .ref a0), (1, .int (iz d)), (2, .int (iz t)), (3, .int (iz upTo)), (4, .int (iz ((h : Nat) : Int)))] dX12_strung_108 (by decide) rfl ?_
                        have L110 : ∀ (f : Nat) (s9 : Nat) (tw : Nat), (σ 1 2).toNat - s9 < f → ((s9 : Int) ≤ σ 1 2) → (tw = tw9 (σ 1) h (se (σ 1) (h : Int) d t (σ 1 2).toNat) s9) → (tw < 256) → hvV p l e { frames := 9, cells := 0, slots := 0, locals := 227 } s m args below meth c 8 (moR a0) 0 0 (MQ below (moQ D cI cZ a0 none (sA (sA (sA σ 5 (sg (σ 1) (ms (σ 1) (σ 7) ((σ 1) 1).toNat) (zt (σ 6) 12) (mz (σ 5) 24) d t (nh9 (σ 1) upTo)).1) 6 (sg (σ 1) (ms (σ 1) (σ 7) ((σ 1) 1).toNat) (zt (σ 6) 12) (mz (σ 5) 24) d t (nh9 (σ 1) upTo)).2) 7 (ms (σ 1) (σ 7) ((σ 1) 1).toNat))) args s 0 0 (moR a0)) (moI D cI cZ a0 s.heap (sA (sA (sA σ 5 S2) 6 K2) 7 (ms (σ 1) (σ 7) ((σ 1) 1).toNat))) 110 [(0, .ref a0), (1, .int (iz d)), (2, .int (iz t)), (3, .int (iz upTo)), (4, .int (iz ((h : Nat) : Int))), (5, .int (iz ((se (σ 1) (h : Int) d t (σ 1 2).toNat : Nat) : Int))), (6, .int (iz ((tw : Nat) : Int))), (7, .int (iz ((s9 : Nat) : Int)))] [] := by
                          intro f
                          induction f with
                          | zero => intro _ _ hm; exact absurd hm (Nat.not_lt_zero _)
                          | succ f ih110 =>
                            intro s9 tw hm110 hs0 htw htl
                            refine hv_iload C 7 7 dX12_strung_110 rfl ?_
                            refine hv_aload_n C 0 0 dX12_strung_112 rfl rfl ?_
                            refine mo_geta C K 0 1 (by decide) rfl mo_hw fl_7 rfl dX12_strung_113 ?_
                            refine hv_iconst C dX12_strung_116 ?_
                            refine mo_iald C K 1 9040 2 rfl (by omega) (by omega) (by decide) dX12_strung_117 ?_
                            refine hv_as (σ 1 2) rfl ?_
                            refine hv_nm (fun x3 ex3 => ?_)
                            have rx3 : inI x3 := by rw [ex3]; exact hσ 1 2
                            refine hv_icmp_ge C 156 dX12_strung_118 (by decide) (by omega) (by omega) (fun h118 => ?_) (fun h118 => ?_)
                            · skip
                              refine hv_aload_n C 0 0 dX12_strung_156 rfl rfl ?_
                              refine mo_geta C K 13 5 (by decide) rfl mo_hw fl_23 rfl dX12_strung_157 ?_
                              refine hv_iload C 4 4 dX12_strung_160 rfl ?_
                              refine hv_iload C 5 5 dX12_strung_162 rfl ?_
                              refine hv_if_ne C 171 dX12_strung_164 (by decide) (by omega) (fun h164 => ?_) (fun h164 => ?_)
                              · skip
                                refine hv_aload_n C 0 0 dX12_strung_171 rfl rfl ?_
                                refine hv_iload C 6 6 dX12_strung_172 rfl ?_
                                refine mo_call [.int (iz ((tw : Nat) : Int))] [.int (iz ((h : Nat) : Int)), .ref (a0 + 5)] C K (k_bestOf l (sA (sA (sA σ 5 S2) 6 K2) 7 (ms (σ 1) (σ 7) ((σ 1) 1).toNat)) tw (by repeat (first | assumption | refine rg_sA ?_ ?_ | refine in_ua ?_ (by omega) | exact fun _ => hσ _ _)) hc hwi (by omega)) ck_bestOf (by decide) rfl (Nat.le_of_ble_eq_true rfl) dX12_strung_174 ?_
                                refine hv_as (((bs (σ 1) K2 (ms (σ 1) (σ 7) ((σ 1) 1).toNat) tw (2 ^ ((σ 1) 1).toNat)).1)) rfl ?_
                                refine hv_nm (fun x4 ex4 => ?_)
                                have rx4 : inI x4 := by rw [ex4]; exact bs_in _ _ _ _ _ hp12
                                refine mo_iast C K 5 24 h rfl (moW_set5 _ _ _ _ _ _) (by omega) (by omega) (by decide) dX12_strung_177 ?_
                                refine mo_st (σ2 := sA (sA (sA σ 5 (ua S2 h x4)) 6 K2) 7 (ms (σ 1) (σ 7) ((σ 1) 1).toNat)) (by rw [u2_sA, sA_comm (j := 7) (k := 5) (by decide), sA_comm (j := 6) (k := 5) (by decide), sA_sA]; first | done | rfl) ?_
                                have zstr : st9 (σ 1) (sg (σ 1) (ms (σ 1) (σ 7) ((σ 1) 1).toNat) KA S9 d t h).2 (ms (σ 1) (σ 7) ((σ 1) 1).toNat) h d t = x4 := by unfold st9; first | (rw [if_pos (by omega)]; done) | (rw [if_neg (by omega), ← hK2, show tw9 (σ 1) h (se (σ 1) (h : Int) d t (σ 1 2).toNat) (σ 1 2).toNat = tw by rw [htw]; exact congrArg (tw9 (σ 1) h (se (σ 1) (h : Int) d t (σ 1 2).toNat)) (by omega)]; omega)
                                refine hv_iconst C dX12_strung_178 ?_
                                refine hv_istore C 7 [(7, .int (iz 0)), (0, .ref a0), (1, .int (iz d)), (2, .int (iz t)), (3, .int (iz upTo)), (4, .int (iz ((h : Nat) : Int))), (5, .int (iz ((se (σ 1) (h : Int) d t (σ 1 2).toNat : Nat) : Int))), (6, .int (iz ((tw : Nat) : Int)))] dX12_strung_179 (by decide) rfl ?_
                                have L181 : ∀ (f : Nat) (w2 : Nat) (K3 : Nat → Int), 12 - w2 < f → (w2 ≤ 12) → (K3 = tk9 K2 ((ua S2 h x4) h) w2) → (0 < w2 → 0 < ((ua S2 h x4) h)) → hvV p l e { frames := 9, cells := 0, slots := 0, locals := 227 } s m args below meth c 8 (moR a0) 0 0 (MQ below (moQ D cI cZ a0 none (sA (sA (sA σ 5 (sg (σ 1) (ms (σ 1) (σ 7) ((σ 1) 1).toNat) (zt (σ 6) 12) (mz (σ 5) 24) d t (nh9 (σ 1) upTo)).1) 6 (sg (σ 1) (ms (σ 1) (σ 7) ((σ 1) 1).toNat) (zt (σ 6) 12) (mz (σ 5) 24) d t (nh9 (σ 1) upTo)).2) 7 (ms (σ 1) (σ 7) ((σ 1) 1).toNat))) args s 0 0 (moR a0)) (moI D cI cZ a0 s.heap (sA (sA (sA σ 5 (ua S2 h x4)) 6 K3) 7 (ms (σ 1) (σ 7) ((σ 1) 1).toNat))) 181 [(0, .ref a0), (1, .int (iz d)), (2, .int (iz t)), (3, .int (iz upTo)), (4, .int (iz ((h : Nat) : Int))), (5, .int (iz ((se (σ 1) (h : Int) d t (σ 1 2).toNat : Nat) : Int))), (6, .int (iz ((tw : Nat) : Int))), (7, .int (iz ((w2 : Nat) : Int)))] [] := by
                                  intro f
                                  induction f with
                                  | zero => intro _ _ hm; exact absurd hm (Nat.not_lt_zero _)
                                  | succ f ih181 =>
                                    intro w2 K3 hm181 hw2 hK3 hK4
                                    refine hv_iload C 7 7 dX12_strung_181 rfl ?_
                                    refine hv_bipush C dX12_strung_183 (by decide) ?_
                                    refine hv_icmp_ge C 226 dX12_strung_185 (by decide) (by omega) (by omega) (fun h185 => ?_) (fun h185 => ?_)
                                    · skip
                                      try have t80 : thb (σ 1) h d t = false := decide_eq_false h80
                                      refine hv_iinc C 4 4 [(4, .int (iz (((h : Nat) : Int) + 1))), (0, .ref a0), (1, .int (iz d)), (2, .int (iz t)), (3, .int (iz upTo)), (5, .int (iz ((se (σ 1) (h : Int) d t (σ 1 2).toNat : Nat) : Int))), (6, .int (iz ((tw : Nat) : Int))), (7, .int (iz ((w2 : Nat) : Int)))] dX12_strung_226 rfl (by decide) rfl ?_
                                      refine hv_goto C 55 dX12_strung_229 (by decide) ?_
                                      refine hv_loc [1, 2, 3, 4, 0] [(0, .ref a0), (1, .int (iz d)), (2, .int (iz t)), (3, .int (iz upTo)), (4, .int (iz (((h : Nat) : Int) + 1)))] rfl ?_
                                      exact ih55 (h + 1) K3 (ua S2 h x4) (by omega) (by omega) (by omega) (by simp only [sg]; first | (rw [if_neg (by rw [t80]; decide)]; exact hS2) | (rw [if_pos t80]; show _ = ua _ h (st9 _ _ _ h d t); rw [zstr, ← hS2])) (by simp only [sg]; first | (rw [if_neg (by rw [t80]; decide)]; exact hK2) | (rw [if_pos t80]; show _ = ite _ _ _; by_cases zx : 0 < st9 (σ 1) (sg (σ 1) (ms (σ 1) (σ 7) ((σ 1) 1).toNat) KA S9 d t h).2 (ms (σ 1) (σ 7) ((σ 1) 1).toNat) h d t; (have zx2 := zx; rw [zstr] at zx2; have zw : w2 = 12 := (by first | omega | (exfalso; rw [ua_at] at h195; omega)); rw [if_pos zx, zstr, ← hK2, hK3, ua_at, zw]); (have zx2 := zx; rw [zstr] at zx2; have zw : w2 = 0 := Nat.eq_zero_of_not_pos (fun zz => zx2 (by have z6 := hK4 zz; rw [ua_at] at z6; exact z6)); rw [if_neg zx, ← hK2, hK3, zw]; rfl))) (by first | exact hKr | (rw [hK3]; exact tk_in hKr hKr2 (by omega) w2 hw2)) (by first | exact (fun i zi => by have z5 := hKr2 i zi; omega) | (rw [hK3]; intro i zi; exact tk_up hKr2 w2 i zi)) (by first | exact hSr | exact in_ua hSr (by omega))
                                    · skip
                                      refine hv_aload_n C 0 0 dX12_strung_188 rfl rfl ?_
                                      refine mo_geta C K 13 5 (by decide) rfl mo_hw fl_23 rfl dX12_strung_189 ?_
                                      refine hv_iload C 4 4 dX12_strung_192 rfl ?_
                                      refine mo_iald C K 5 24 h rfl (by omega) (by omega) (by decide) dX12_strung_194 ?_
                                      refine hv_as ((ua S2 h x4) h) rfl ?_
                                      have zr9 : inI (((ua S2 h x4) h)) := by rw [ua_at]; first | omega | decide
                                      refine hv_if_le C 226 dX12_strung_195 (by decide) (by omega) (fun h195 => ?_) (fun h195 => ?_)
                                      · skip
                                        try have t80 : thb (σ 1) h d t = false := decide_eq_false h80
                                        refine hv_iinc C 4 4 [(4, .int (iz (((h : Nat) : Int) + 1))), (0, .ref a0), (1, .int (iz d)), (2, .int (iz t)), (3, .int (iz upTo)), (5, .int (iz ((se (σ 1) (h : Int) d t (σ 1 2).toNat : Nat) : Int))), (6, .int (iz ((tw : Nat) : Int))), (7, .int (iz ((w2 : Nat) : Int)))] dX12_strung_226 rfl (by decide) rfl ?_
                                        refine hv_goto C 55 dX12_strung_229 (by decide) ?_
                                        refine hv_loc [1, 2, 3, 4, 0] [(0, .ref a0), (1, .int (iz d)), (2, .int (iz t)), (3, .int (iz upTo)), (4, .int (iz (((h : Nat) : Int) + 1)))] rfl ?_
                                        exact ih55 (h + 1) K3 (ua S2 h x4) (by omega) (by omega) (by omega) (by simp only [sg]; first | (rw [if_neg (by rw [t80]; decide)]; exact hS2) | (rw [if_pos t80]; show _ = ua _ h (st9 _ _ _ h d t); rw [zstr, ← hS2])) (by simp only [sg]; first | (rw [if_neg (by rw [t80]; decide)]; exact hK2) | (rw [if_pos t80]; show _ = ite _ _ _; by_cases zx : 0 < st9 (σ 1) (sg (σ 1) (ms (σ 1) (σ 7) ((σ 1) 1).toNat) KA S9 d t h).2 (ms (σ 1) (σ 7) ((σ 1) 1).toNat) h d t; (have zx2 := zx; rw [zstr] at zx2; have zw : w2 = 12 := (by first | omega | (exfalso; rw [ua_at] at h195; omega)); rw [if_pos zx, zstr, ← hK2, hK3, ua_at, zw]); (have zx2 := zx; rw [zstr] at zx2; have zw : w2 = 0 := Nat.eq_zero_of_not_pos (fun zz => zx2 (by have z6 := hK4 zz; rw [ua_at] at z6; exact z6)); rw [if_neg zx, ← hK2, hK3, zw]; rfl))) (by first | exact hKr | (rw [hK3]; exact tk_in hKr hKr2 (by omega) w2 hw2)) (by first | exact (fun i zi => by have z5 := hKr2 i zi; omega) | (rw [hK3]; intro i zi; exact tk_up hKr2 w2 i zi)) (by first | exact hSr | exact in_ua hSr (by omega))
                                      · skip
                                        refine hv_aload_n C 0 0 dX12_strung_198 rfl rfl ?_
                                        refine mo_geta C K 14 6 (by decide) rfl mo_hw fl_26 rfl dX12_strung_199 ?_
                                        refine hv_iload C 7 7 dX12_strung_202 rfl ?_
                                        refine hv_dup2 C dX12_strung_204 rfl rfl ?_
                                        refine mo_iald C K 6 12 w2 rfl (by omega) (by omega) (by decide) dX12_strung_205 ?_
                                        refine hv_as (K3 w2) rfl ?_
                                        refine hv_aload_n C 0 0 dX12_strung_206 rfl rfl ?_
                                        refine mo_geta C K 13 5 (by decide) rfl mo_hw fl_23 rfl dX12_strung_207 ?_
                                        refine hv_iload C 4 4 dX12_strung_210 rfl ?_
                                        refine mo_iald C K 5 24 h rfl (by omega) (by omega) (by decide) dX12_strung_212 ?_
                                        refine hv_as ((ua S2 h x4) h) rfl ?_
                                        refine hv_iload C 7 7 dX12_strung_213 rfl ?_
                                        refine hv_ishr C w2 (by omega) (by omega) (by omega) dX12_strung_215 ?_
                                        refine hv_iconst C dX12_strung_216 ?_
                                        refine hv_imsk C 1 (by decide) (by decide) dX12_strung_217 ?_
                                        refine hv_iadd C dX12_strung_218 ?_
                                        refine mo_iast C K 6 12 w2 rfl (moW_set6 _ _ _ _ _ _) (by omega) (by omega) (by decide) dX12_strung_219 ?_
                                        refine mo_st (σ2 := sA (sA (sA σ 5 (ua S2 h x4)) 6 (ua K3 w2 ((K3 w2) + ((((ua S2 h x4) h) / 2 ^ w2) % 2 ^ 1)))) 7 (ms (σ 1) (σ 7) ((σ 1) 1).toNat)) (by rw [u2_sA, sA_comm (j := 7) (k := 6) (by decide), sA_sA]; first | done | rfl) ?_
                                        refine hv_iinc C 7 7 [(7, .int (iz (((w2 : Nat) : Int) + 1))), (0, .ref a0), (1, .int (iz d)), (2, .int (iz t)), (3, .int (iz upTo)), (4, .int (iz ((h : Nat) : Int))), (5, .int (iz ((se (σ 1) (h : Int) d t (σ 1 2).toNat : Nat) : Int))), (6, .int (iz ((tw : Nat) : Int)))] dX12_strung_220 rfl (by decide) rfl ?_
                                        refine hv_goto C 181 dX12_strung_223 (by decide) ?_
                                        refine hv_loc [1, 2, 3, 4, 5, 6, 7, 0] [(0, .ref a0), (1, .int (iz d)), (2, .int (iz t)), (3, .int (iz upTo)), (4, .int (iz ((h : Nat) : Int))), (5, .int (iz ((se (σ 1) (h : Int) d t (σ 1 2).toNat : Nat) : Int))), (6, .int (iz ((tw : Nat) : Int))), (7, .int (iz (((w2 : Nat) : Int) + 1)))] rfl ?_
                                        exact ih181 (w2 + 1) (ua K3 w2 ((K3 w2) + ((((ua S2 h x4) h) / 2 ^ w2) % 2 ^ 1))) (by omega) (by omega) (by rw [hK3]; subst_vars; rfl) (fun _ => by omega)
                                refine hv_loc [1, 2, 3, 4, 5, 6, 7, 0] [(0, .ref a0), (1, .int (iz d)), (2, .int (iz t)), (3, .int (iz upTo)), (4, .int (iz ((h : Nat) : Int))), (5, .int (iz ((se (σ 1) (h : Int) d t (σ 1 2).toNat : Nat) : Int))), (6, .int (iz ((tw : Nat) : Int))), (7, .int (iz 0))] rfl ?_
                                exact L181 _ 0 K2 (Nat.lt_succ_self _) (by omega) rfl (fun zz => absurd zz (by decide))
                              · skip
                                refine hv_iconst C dX12_strung_167 ?_
                                refine hv_goto C 177 dX12_strung_168 (by decide) ?_
                                refine mo_iast C K 5 24 h rfl (moW_set5 _ _ _ _ _ _) (by omega) (by omega) (by decide) dX12_strung_177 ?_
                                refine mo_st (σ2 := sA (sA (sA σ 5 (ua S2 h 0)) 6 K2) 7 (ms (σ 1) (σ 7) ((σ 1) 1).toNat)) (by rw [u2_sA, sA_comm (j := 7) (k := 5) (by decide), sA_comm (j := 6) (k := 5) (by decide), sA_sA]; first | done | rfl) ?_
                                have zstr : st9 (σ 1) (sg (σ 1) (ms (σ 1) (σ 7) ((σ 1) 1).toNat) KA S9 d t h).2 (ms (σ 1) (σ 7) ((σ 1) 1).toNat) h d t = 0 := by unfold st9; first | (rw [if_pos (by omega)]; done) | (rw [if_neg (by omega), ← hK2, show tw9 (σ 1) h (se (σ 1) (h : Int) d t (σ 1 2).toNat) (σ 1 2).toNat = tw by rw [htw]; exact congrArg (tw9 (σ 1) h (se (σ 1) (h : Int) d t (σ 1 2).toNat)) (by omega)]; omega)
                                refine hv_iconst C dX12_strung_178 ?_
                                refine hv_istore C 7 [(7, .int (iz 0)), (0, .ref a0), (1, .int (iz d)), (2, .int (iz t)), (3, .int (iz upTo)), (4, .int (iz ((h : Nat) : Int))), (5, .int (iz ((se (σ 1) (h : Int) d t (σ 1 2).toNat : Nat) : Int))), (6, .int (iz ((tw : Nat) : Int)))] dX12_strung_179 (by decide) rfl ?_
                                have L181 : ∀ (f : Nat) (w2 : Nat) (K3 : Nat → Int), 12 - w2 < f → (w2 ≤ 12) → (K3 = tk9 K2 ((ua S2 h 0) h) w2) → (0 < w2 → 0 < ((ua S2 h 0) h)) → hvV p l e { frames := 9, cells := 0, slots := 0, locals := 227 } s m args below meth c 8 (moR a0) 0 0 (MQ below (moQ D cI cZ a0 none (sA (sA (sA σ 5 (sg (σ 1) (ms (σ 1) (σ 7) ((σ 1) 1).toNat) (zt (σ 6) 12) (mz (σ 5) 24) d t (nh9 (σ 1) upTo)).1) 6 (sg (σ 1) (ms (σ 1) (σ 7) ((σ 1) 1).toNat) (zt (σ 6) 12) (mz (σ 5) 24) d t (nh9 (σ 1) upTo)).2) 7 (ms (σ 1) (σ 7) ((σ 1) 1).toNat))) args s 0 0 (moR a0)) (moI D cI cZ a0 s.heap (sA (sA (sA σ 5 (ua S2 h 0)) 6 K3) 7 (ms (σ 1) (σ 7) ((σ 1) 1).toNat))) 181 [(0, .ref a0), (1, .int (iz d)), (2, .int (iz t)), (3, .int (iz upTo)), (4, .int (iz ((h : Nat) : Int))), (5, .int (iz ((se (σ 1) (h : Int) d t (σ 1 2).toNat : Nat) : Int))), (6, .int (iz ((tw : Nat) : Int))), (7, .int (iz ((w2 : Nat) : Int)))] [] := by
                                  intro f
                                  induction f with
                                  | zero => intro _ _ hm; exact absurd hm (Nat.not_lt_zero _)
                                  | succ f ih181 =>
                                    intro w2 K3 hm181 hw2 hK3 hK4
                                    refine hv_iload C 7 7 dX12_strung_181 rfl ?_
                                    refine hv_bipush C dX12_strung_183 (by decide) ?_
                                    refine hv_icmp_ge C 226 dX12_strung_185 (by decide) (by omega) (by omega) (fun h185 => ?_) (fun h185 => ?_)
                                    · skip
                                      try have t80 : thb (σ 1) h d t = false := decide_eq_false h80
                                      refine hv_iinc C 4 4 [(4, .int (iz (((h : Nat) : Int) + 1))), (0, .ref a0), (1, .int (iz d)), (2, .int (iz t)), (3, .int (iz upTo)), (5, .int (iz ((se (σ 1) (h : Int) d t (σ 1 2).toNat : Nat) : Int))), (6, .int (iz ((tw : Nat) : Int))), (7, .int (iz ((w2 : Nat) : Int)))] dX12_strung_226 rfl (by decide) rfl ?_
                                      refine hv_goto C 55 dX12_strung_229 (by decide) ?_
                                      refine hv_loc [1, 2, 3, 4, 0] [(0, .ref a0), (1, .int (iz d)), (2, .int (iz t)), (3, .int (iz upTo)), (4, .int (iz (((h : Nat) : Int) + 1)))] rfl ?_
                                      exact ih55 (h + 1) K3 (ua S2 h 0) (by omega) (by omega) (by omega) (by simp only [sg]; first | (rw [if_neg (by rw [t80]; decide)]; exact hS2) | (rw [if_pos t80]; show _ = ua _ h (st9 _ _ _ h d t); rw [zstr, ← hS2])) (by simp only [sg]; first | (rw [if_neg (by rw [t80]; decide)]; exact hK2) | (rw [if_pos t80]; show _ = ite _ _ _; by_cases zx : 0 < st9 (σ 1) (sg (σ 1) (ms (σ 1) (σ 7) ((σ 1) 1).toNat) KA S9 d t h).2 (ms (σ 1) (σ 7) ((σ 1) 1).toNat) h d t; (have zx2 := zx; rw [zstr] at zx2; have zw : w2 = 12 := (by first | omega | (exfalso; rw [ua_at] at h195; omega)); rw [if_pos zx, zstr, ← hK2, hK3, ua_at, zw]); (have zx2 := zx; rw [zstr] at zx2; have zw : w2 = 0 := Nat.eq_zero_of_not_pos (fun zz => zx2 (by have z6 := hK4 zz; rw [ua_at] at z6; exact z6)); rw [if_neg zx, ← hK2, hK3, zw]; rfl))) (by first | exact hKr | (rw [hK3]; exact tk_in hKr hKr2 (by omega) w2 hw2)) (by first | exact (fun i zi => by have z5 := hKr2 i zi; omega) | (rw [hK3]; intro i zi; exact tk_up hKr2 w2 i zi)) (by first | exact hSr | exact in_ua hSr (by omega))
                                    · skip
                                      refine hv_aload_n C 0 0 dX12_strung_188 rfl rfl ?_
                                      refine mo_geta C K 13 5 (by decide) rfl mo_hw fl_23 rfl dX12_strung_189 ?_
                                      refine hv_iload C 4 4 dX12_strung_192 rfl ?_
                                      refine mo_iald C K 5 24 h rfl (by omega) (by omega) (by decide) dX12_strung_194 ?_
                                      refine hv_as ((ua S2 h 0) h) rfl ?_
                                      have zr9 : inI (((ua S2 h 0) h)) := by rw [ua_at]; first | omega | decide
                                      refine hv_if_le C 226 dX12_strung_195 (by decide) (by omega) (fun h195 => ?_) (fun h195 => ?_)
                                      · skip
                                        try have t80 : thb (σ 1) h d t = false := decide_eq_false h80
                                        refine hv_iinc C 4 4 [(4, .int (iz (((h : Nat) : Int) + 1))), (0, .ref a0), (1, .int (iz d)), (2, .int (iz t)), (3, .int (iz upTo)), (5, .int (iz ((se (σ 1) (h : Int) d t (σ 1 2).toNat : Nat) : Int))), (6, .int (iz ((tw : Nat) : Int))), (7, .int (iz ((w2 : Nat) : Int)))] dX12_strung_226 rfl (by decide) rfl ?_
                                        refine hv_goto C 55 dX12_strung_229 (by decide) ?_
                                        refine hv_loc [1, 2, 3, 4, 0] [(0, .ref a0), (1, .int (iz d)), (2, .int (iz t)), (3, .int (iz upTo)), (4, .int (iz (((h : Nat) : Int) + 1)))] rfl ?_
                                        exact ih55 (h + 1) K3 (ua S2 h 0) (by omega) (by omega) (by omega) (by simp only [sg]; first | (rw [if_neg (by rw [t80]; decide)]; exact hS2) | (rw [if_pos t80]; show _ = ua _ h (st9 _ _ _ h d t); rw [zstr, ← hS2])) (by simp only [sg]; first | (rw [if_neg (by rw [t80]; decide)]; exact hK2) | (rw [if_pos t80]; show _ = ite _ _ _; by_cases zx : 0 < st9 (σ 1) (sg (σ 1) (ms (σ 1) (σ 7) ((σ 1) 1).toNat) KA S9 d t h).2 (ms (σ 1) (σ 7) ((σ 1) 1).toNat) h d t; (have zx2 := zx; rw [zstr] at zx2; have zw : w2 = 12 := (by first | omega | (exfalso; rw [ua_at] at h195; omega)); rw [if_pos zx, zstr, ← hK2, hK3, ua_at, zw]); (have zx2 := zx; rw [zstr] at zx2; have zw : w2 = 0 := Nat.eq_zero_of_not_pos (fun zz => zx2 (by have z6 := hK4 zz; rw [ua_at] at z6; exact z6)); rw [if_neg zx, ← hK2, hK3, zw]; rfl))) (by first | exact hKr | (rw [hK3]; exact tk_in hKr hKr2 (by omega) w2 hw2)) (by first | exact (fun i zi => by have z5 := hKr2 i zi; omega) | (rw [hK3]; intro i zi; exact tk_up hKr2 w2 i zi)) (by first | exact hSr | exact in_ua hSr (by omega))
                                      · skip
                                        refine hv_aload_n C 0 0 dX12_strung_198 rfl rfl ?_
                                        refine mo_geta C K 14 6 (by decide) rfl mo_hw fl_26 rfl dX12_strung_199 ?_
                                        refine hv_iload C 7 7 dX12_strung_202 rfl ?_
                                        refine hv_dup2 C dX12_strung_204 rfl rfl ?_
                                        refine mo_iald C K 6 12 w2 rfl (by omega) (by omega) (by decide) dX12_strung_205 ?_
                                        refine hv_as (K3 w2) rfl ?_
                                        refine hv_aload_n C 0 0 dX12_strung_206 rfl rfl ?_
                                        refine mo_geta C K 13 5 (by decide) rfl mo_hw fl_23 rfl dX12_strung_207 ?_
                                        refine hv_iload C 4 4 dX12_strung_210 rfl ?_
                                        refine mo_iald C K 5 24 h rfl (by omega) (by omega) (by decide) dX12_strung_212 ?_
                                        refine hv_as ((ua S2 h 0) h) rfl ?_
                                        refine hv_iload C 7 7 dX12_strung_213 rfl ?_
                                        refine hv_ishr C w2 (by omega) (by omega) (by omega) dX12_strung_215 ?_
                                        refine hv_iconst C dX12_strung_216 ?_
                                        refine hv_imsk C 1 (by decide) (by decide) dX12_strung_217 ?_
                                        refine hv_iadd C dX12_strung_218 ?_
                                        refine mo_iast C K 6 12 w2 rfl (moW_set6 _ _ _ _ _ _) (by omega) (by omega) (by decide) dX12_strung_219 ?_
                                        refine mo_st (σ2 := sA (sA (sA σ 5 (ua S2 h 0)) 6 (ua K3 w2 ((K3 w2) + ((((ua S2 h 0) h) / 2 ^ w2) % 2 ^ 1)))) 7 (ms (σ 1) (σ 7) ((σ 1) 1).toNat)) (by rw [u2_sA, sA_comm (j := 7) (k := 6) (by decide), sA_sA]; first | done | rfl) ?_
                                        refine hv_iinc C 7 7 [(7, .int (iz (((w2 : Nat) : Int) + 1))), (0, .ref a0), (1, .int (iz d)), (2, .int (iz t)), (3, .int (iz upTo)), (4, .int (iz ((h : Nat) : Int))), (5, .int (iz ((se (σ 1) (h : Int) d t (σ 1 2).toNat : Nat) : Int))), (6, .int (iz ((tw : Nat) : Int)))] dX12_strung_220 rfl (by decide) rfl ?_
                                        refine hv_goto C 181 dX12_strung_223 (by decide) ?_
                                        refine hv_loc [1, 2, 3, 4, 5, 6, 7, 0] [(0, .ref a0), (1, .int (iz d)), (2, .int (iz t)), (3, .int (iz upTo)), (4, .int (iz ((h : Nat) : Int))), (5, .int (iz ((se (σ 1) (h : Int) d t (σ 1 2).toNat : Nat) : Int))), (6, .int (iz ((tw : Nat) : Int))), (7, .int (iz (((w2 : Nat) : Int) + 1)))] rfl ?_
                                        exact ih181 (w2 + 1) (ua K3 w2 ((K3 w2) + ((((ua S2 h 0) h) / 2 ^ w2) % 2 ^ 1))) (by omega) (by omega) (by rw [hK3]; subst_vars; rfl) (fun _ => by omega)
                                refine hv_loc [1, 2, 3, 4, 5, 6, 7, 0] [(0, .ref a0), (1, .int (iz d)), (2, .int (iz t)), (3, .int (iz upTo)), (4, .int (iz ((h : Nat) : Int))), (5, .int (iz ((se (σ 1) (h : Int) d t (σ 1 2).toNat : Nat) : Int))), (6, .int (iz ((tw : Nat) : Int))), (7, .int (iz 0))] rfl ?_
                                exact L181 _ 0 K2 (Nat.lt_succ_self _) (by omega) rfl (fun zz => absurd zz (by decide))
                            · skip
                              have a5 := hs s9 (by omega)
                              refine hv_iload C 6 6 dX12_strung_121 rfl ?_
                              refine hv_iload C 5 5 dX12_strung_123 rfl ?_
                              refine hv_iload C 7 7 dX12_strung_125 rfl ?_
                              refine hv_ishr C s9 (by omega) (by omega) (by omega) dX12_strung_127 ?_
                              refine hv_iconst C dX12_strung_128 ?_
                              refine hv_imsk C 1 (by decide) (by decide) dX12_strung_129 ?_
                              refine hv_iconst C dX12_strung_130 ?_
                              refine hv_icmp_ne C 146 dX12_strung_131 (by decide) (by omega) (by omega) (fun h131 => ?_) (fun h131 => ?_)
                              · skip
                                refine hv_iconst C dX12_strung_146 ?_
                                refine hv_iorn C tw 0 rfl rfl dX12_strung_147 ?_
                                refine hv_istore C 6 [(6, .int (iz ((tw ||| 0 : Nat) : Int))), (0, .ref a0), (1, .int (iz d)), (2, .int (iz t)), (3, .int (iz upTo)), (4, .int (iz ((h : Nat) : Int))), (5, .int (iz ((se (σ 1) (h : Int) d t (σ 1 2).toNat : Nat) : Int))), (7, .int (iz ((s9 : Nat) : Int)))] dX12_strung_148 (by decide) rfl ?_
                                refine hv_iinc C 7 7 [(7, .int (iz (((s9 : Nat) : Int) + 1))), (6, .int (iz ((tw ||| 0 : Nat) : Int))), (0, .ref a0), (1, .int (iz d)), (2, .int (iz t)), (3, .int (iz upTo)), (4, .int (iz ((h : Nat) : Int))), (5, .int (iz ((se (σ 1) (h : Int) d t (σ 1 2).toNat : Nat) : Int)))] dX12_strung_150 rfl (by decide) rfl ?_
                                refine hv_goto C 110 dX12_strung_153 (by decide) ?_
                                refine hv_loc [2, 3, 4, 5, 6, 7, 1, 0] [(0, .ref a0), (1, .int (iz d)), (2, .int (iz t)), (3, .int (iz upTo)), (4, .int (iz ((h : Nat) : Int))), (5, .int (iz ((se (σ 1) (h : Int) d t (σ 1 2).toNat : Nat) : Int))), (6, .int (iz ((tw ||| 0 : Nat) : Int))), (7, .int (iz (((s9 : Nat) : Int) + 1)))] rfl ?_
                                exact ih110 (s9 + 1) (tw ||| 0) (by omega) (by omega) (by simp only [tw9]; rw [← htw]; first | (rw [if_neg (by omega)]) | (rw [if_pos (by omega), zns])) (by first | exact Nat.or_lt_two_pow (n := 8) htl (Nat.pow_lt_pow_right (by decide) (by omega)) | exact Nat.or_lt_two_pow (n := 8) htl (by decide))
                              · skip
                                refine hv_iconst C dX12_strung_134 ?_
                                refine hv_aload_n C 0 0 dX12_strung_135 rfl rfl ?_
                                refine hv_iload C 7 7 dX12_strung_136 rfl ?_
                                refine hv_iconst C dX12_strung_138 ?_
                                refine mo_call [.int (iz ((s9 : Nat) : Int)), .int (iz 0)] [.int (iz 1), .int (iz ((tw : Nat) : Int))] C K (k_stationOf l (sA (sA (sA σ 5 S2) 6 K2) 7 (ms (σ 1) (σ 7) ((σ 1) 1).toNat)) s9 0 (by omega) (by omega)) ck_stationOf (by decide) rfl (Nat.le_of_ble_eq_true rfl) dX12_strung_139 ?_
                                refine hv_as (((σ 1) ((80 + (4 * s9)) + 0))) rfl ?_
                                refine hv_nm (fun x5 ex5 => ?_)
                                have rx5 : inI x5 := by rw [ex5]; exact hσ _ _
                                obtain ⟨ns, rfl⟩ : ∃ n : Nat, x5 = (n : Int) := ⟨(x5).toNat, by omega⟩
                                have zns : (σ 1 (80 + 4 * s9 + 0)).toNat = ns := by omega
                                refine hv_ishl1 C ns (by omega) (by omega) dX12_strung_142 ?_
                                refine hv_goto C 147 dX12_strung_143 (by decide) ?_
                                refine hv_iorn C tw (2 ^ ns) rfl (by simp) dX12_strung_147 ?_
                                refine hv_istore C 6 [(6, .int (iz ((tw ||| (2 ^ ns) : Nat) : Int))), (0, .ref a0), (1, .int (iz d)), (2, .int (iz t)), (3, .int (iz upTo)), (4, .int (iz ((h : Nat) : Int))), (5, .int (iz ((se (σ 1) (h : Int) d t (σ 1 2).toNat : Nat) : Int))), (7, .int (iz ((s9 : Nat) : Int)))] dX12_strung_148 (by decide) rfl ?_
                                refine hv_iinc C 7 7 [(7, .int (iz (((s9 : Nat) : Int) + 1))), (6, .int (iz ((tw ||| (2 ^ ns) : Nat) : Int))), (0, .ref a0), (1, .int (iz d)), (2, .int (iz t)), (3, .int (iz upTo)), (4, .int (iz ((h : Nat) : Int))), (5, .int (iz ((se (σ 1) (h : Int) d t (σ 1 2).toNat : Nat) : Int)))] dX12_strung_150 rfl (by decide) rfl ?_
                                refine hv_goto C 110 dX12_strung_153 (by decide) ?_
                                refine hv_loc [2, 3, 4, 5, 6, 7, 1, 0] [(0, .ref a0), (1, .int (iz d)), (2, .int (iz t)), (3, .int (iz upTo)), (4, .int (iz ((h : Nat) : Int))), (5, .int (iz ((se (σ 1) (h : Int) d t (σ 1 2).toNat : Nat) : Int))), (6, .int (iz ((tw ||| (2 ^ ns) : Nat) : Int))), (7, .int (iz (((s9 : Nat) : Int) + 1)))] rfl ?_
                                exact ih110 (s9 + 1) (tw ||| (2 ^ ns)) (by omega) (by omega) (by simp only [tw9]; rw [← htw]; first | (rw [if_neg (by omega)]) | (rw [if_pos (by omega), zns])) (by first | exact Nat.or_lt_two_pow (n := 8) htl (Nat.pow_lt_pow_right (by decide) (by omega)) | exact Nat.or_lt_two_pow (n := 8) htl (by decide))
                        refine hv_loc [3, 4, 5, 6, 7, 2, 1, 0] [(0, .ref a0), (1, .int (iz d)), (2, .int (iz t)), (3, .int (iz upTo)), (4, .int (iz ((h : Nat) : Int))), (5, .int (iz ((se (σ 1) (h : Int) d t (σ 1 2).toNat : Nat) : Int))), (6, .int (iz ((2 ^ nt : Nat) : Int))), (7, .int (iz 0))] rfl ?_
                        exact L110 _ 0 (2 ^ nt) (Nat.lt_succ_self _) (by omega) (by rw [← znt]; rfl) (Nat.pow_lt_pow_right (by decide) (by omega) : 2 ^ nt < 2 ^ 8)
                      · skip
                        refine hv_goto C 226 dX12_strung_83 (by decide) ?_
                        try have t80 : thb (σ 1) h d t = false := decide_eq_false h80
                        refine hv_iinc C 4 4 [(4, .int (iz (((h : Nat) : Int) + 1))), (0, .ref a0), (1, .int (iz d)), (2, .int (iz t)), (3, .int (iz upTo))] dX12_strung_226 rfl (by decide) rfl ?_
                        refine hv_goto C 55 dX12_strung_229 (by decide) ?_
                        refine hv_loc [1, 2, 3, 4, 0] [(0, .ref a0), (1, .int (iz d)), (2, .int (iz t)), (3, .int (iz upTo)), (4, .int (iz (((h : Nat) : Int) + 1)))] rfl ?_
                        exact ih55 (h + 1) K2 S2 (by omega) (by omega) (by omega) (by simp only [sg]; first | (rw [if_neg (by rw [t80]; decide)]; exact hS2) | (rw [if_pos t80]; show _ = ua _ h (st9 _ _ _ h d t); rw [zstr, ← hS2])) (by simp only [sg]; first | (rw [if_neg (by rw [t80]; decide)]; exact hK2) | (rw [if_pos t80]; show _ = ite _ _ _; by_cases zx : 0 < st9 (σ 1) (sg (σ 1) (ms (σ 1) (σ 7) ((σ 1) 1).toNat) KA S9 d t h).2 (ms (σ 1) (σ 7) ((σ 1) 1).toNat) h d t; (have zx2 := zx; rw [zstr] at zx2; have zw : w2 = 12 := (by first | omega | (exfalso; rw [ua_at] at h195; omega)); rw [if_pos zx, zstr, ← hK2, hK3, ua_at, zw]); (have zx2 := zx; rw [zstr] at zx2; have zw : w2 = 0 := Nat.eq_zero_of_not_pos (fun zz => zx2 (by have z6 := hK4 zz; rw [ua_at] at z6; exact z6)); rw [if_neg zx, ← hK2, hK3, zw]; rfl))) (by first | exact hKr | (rw [hK3]; exact tk_in hKr hKr2 (by omega) w2 hw2)) (by first | exact (fun i zi => by have z5 := hKr2 i zi; omega) | (rw [hK3]; intro i zi; exact tk_up hKr2 w2 i zi)) (by first | exact hSr | exact in_ua hSr (by omega))
              refine hv_loc [1, 2, 3, 4, 0] [(0, .ref a0), (1, .int (iz d)), (2, .int (iz t)), (3, .int (iz upTo)), (4, .int (iz 0))] rfl ?_
              exact L55 _ 0 KA S9 (Nat.lt_succ_self _) (by omega) (by omega) rfl rfl (by rw [hK]; exact zt_in (fun _ => hσ _ _) _) (by rw [hK]; intro i zi; rw [zt_0 _ _ _ (by omega)]; omega) (by rw [hS9]; exact mz_in (fun _ => hσ _ _) _)
            · skip
              refine hv_aload_n C 0 0 dX12_strung_38 rfl rfl ?_
              refine mo_geta C K 13 5 (by decide) rfl mo_hw fl_23 rfl dX12_strung_39 ?_
              refine hv_iload C 4 4 dX12_strung_42 rfl ?_
              refine hv_iconst C dX12_strung_44 ?_
              refine mo_iast C K 5 24 h9 rfl (moW_set5 _ _ _ _ _ _) (by omega) (by omega) (by decide) dX12_strung_45 ?_
              refine mo_st (σ2 := sA (sA (sA σ 5 (ua S9 h9 (-1))) 6 KA) 7 (ms (σ 1) (σ 7) ((σ 1) 1).toNat)) (by rw [u2_sA, sA_comm (j := 7) (k := 5) (by decide), sA_comm (j := 6) (k := 5) (by decide), sA_sA]; first | done | rfl) ?_
              refine hv_iinc C 4 4 [(4, .int (iz (((h9 : Nat) : Int) + 1))), (0, .ref a0), (1, .int (iz d)), (2, .int (iz t)), (3, .int (iz upTo))] dX12_strung_46 rfl (by decide) rfl ?_
              refine hv_goto C 31 dX12_strung_49 (by decide) ?_
              refine hv_loc [1, 2, 3, 4, 0] [(0, .ref a0), (1, .int (iz d)), (2, .int (iz t)), (3, .int (iz upTo)), (4, .int (iz (((h9 : Nat) : Int) + 1)))] rfl ?_
              exact ih31 (h9 + 1) (ua S9 h9 (-1)) (by omega) (by omega) (by rw [hS9]; rfl)
        refine hv_loc [1, 2, 3, 4, 0] [(0, .ref a0), (1, .int (iz d)), (2, .int (iz t)), (3, .int (iz upTo)), (4, .int (iz 0))] rfl ?_
        refine mo_st (σ2 := sA (sA (sA σ 5 (σ 5)) 6 KA) 7 (ms (σ 1) (σ 7) ((σ 1) 1).toNat)) ((sA_id (sA (sA σ 6 KA) 7 (ms (σ 1) (σ 7) ((σ 1) 1).toNat)) 5).symm.trans (by rw [sA_comm (j := 7) (k := 5) (by decide), sA_comm (j := 6) (k := 5) (by decide)]; first | done | rfl)) ?_
        exact L31 _ 0 (σ 5) (Nat.lt_succ_self _) (by omega) rfl
      · skip
        refine hv_aload_n C 0 0 dX12_strung_14 rfl rfl ?_
        refine mo_geta C K 14 6 (by decide) rfl mo_hw fl_26 rfl dX12_strung_15 ?_
        refine hv_iload C 4 4 dX12_strung_18 rfl ?_
        refine hv_iconst C dX12_strung_20 ?_
        refine mo_iast C K 6 12 w rfl (moW_set6 _ _ _ _ _ _) (by omega) (by omega) (by decide) dX12_strung_21 ?_
        refine mo_st (σ2 := sA (sA σ 6 (ua KA w 0)) 7 (ms (σ 1) (σ 7) ((σ 1) 1).toNat)) (by rw [u2_sA, sA_comm (j := 7) (k := 6) (by decide), sA_sA]; first | done | rfl) ?_
        refine hv_iinc C 4 4 [(4, .int (iz (((w : Nat) : Int) + 1))), (0, .ref a0), (1, .int (iz d)), (2, .int (iz t)), (3, .int (iz upTo))] dX12_strung_22 rfl (by decide) rfl ?_
        refine hv_goto C 7 dX12_strung_25 (by decide) ?_
        refine hv_loc [1, 2, 3, 4, 0] [(0, .ref a0), (1, .int (iz d)), (2, .int (iz t)), (3, .int (iz upTo)), (4, .int (iz (((w : Nat) : Int) + 1)))] rfl ?_
        exact ih7 (w + 1) (ua KA w 0) (by omega) (by omega) (by rw [hK]; rfl)
  refine hv_loc [1, 2, 3, 4, 0] [(0, .ref a0), (1, .int (iz d)), (2, .int (iz t)), (3, .int (iz upTo)), (4, .int (iz 0))] rfl ?_
  refine mo_st (σ2 := sA (sA σ 6 (σ 6)) 7 (ms (σ 1) (σ 7) ((σ 1) 1).toNat)) ((sA_id (sA σ 7 (ms (σ 1) (σ 7) ((σ 1) 1).toNat)) 6).symm.trans (by rw [sA_comm (j := 7) (k := 6) (by decide)]; first | done | rfl)) ?_
  exact L7 _ 0 (σ 6) (Nat.lt_succ_self _) (by omega) rfl
