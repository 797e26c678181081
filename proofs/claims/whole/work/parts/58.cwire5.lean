def pi9 (P : Nat → Int) : Nat → (Nat → Int)
  | 0 => P
  | t + 1 => ua (pi9 P t) t ((2 : Int) ^ t)
/-- a wire is looked at: it joins two parts, or nothing -/
def wqS (A K : Nat → Int) (tw w : Nat) (s : (Nat → Int) × Int × Nat) : (Nat → Int) × Int × Nat :=
  if (wb A w &&& tw = wb A w ∧ ¬ (s.1 (A (30 + 4 * w + 0)).toNat).toNat &&& wb A w = wb A w) ∧ K w < A (30 + 4 * w + 3) then
    (jp9 s.1 ((s.1 (A (30 + 4 * w + 0)).toNat).toNat ||| (s.1 (A (30 + 4 * w + 1)).toNat).toNat) 8, s.2.1 + (A (30 + 4 * w + 2) * 4096 + 2 ^ w), (s.1 (A (30 + 4 * w + 0)).toNat).toNat ||| (s.1 (A (30 + 4 * w + 1)).toNat).toNat)
  else s
def wqT (A K O : Nat → Int) (tw : Nat) (lim : Int) (P0 : Nat → Int) : Nat → (Nat → Int) × Int × Nat
  | 0 => (pi9 P0 8, 0, tw &&& (4096 - tw))
  | k + 1 => if (wqT A K O tw lim P0 k).2.2 = tw ∨ lim ≤ (wqT A K O tw lim P0 k).2.1 then wqT A K O tw lim P0 k else wqS A K tw (O k).toNat (wqT A K O tw lim P0 k)
def wqR (tw : Nat) (s : (Nat → Int) × Int × Nat) : Int := if s.2.2 = tw then s.2.1 else 1000000000
def wqL (A K O P0 : Nat → Int) (nd : Nat) : Nat → (Nat → Int) × Int
  | 0 => (P0, 1000000000)
  | m + 1 => if (wqL A K O P0 nd m).2 ≤ 0 then wqL A K O P0 nd m else if (nd + m) &&& nd = nd then ((wqT A K O (nd + m) (wqL A K O P0 nd m).2 (wqL A K O P0 nd m).1 (A 1).toNat).1, if wqR (nd + m) (wqT A K O (nd + m) (wqL A K O P0 nd m).2 (wqL A K O P0 nd m).1 (A 1).toNat) < (wqL A K O P0 nd m).2 then wqR (nd + m) (wqT A K O (nd + m) (wqL A K O P0 nd m).2 (wqL A K O P0 nd m).1 (A 1).toNat) else (wqL A K O P0 nd m).2) else wqL A K O P0 nd m
def wqN (A K O P0 : Nat → Int) (nd : Nat) : Int := if (wqL A K O P0 nd (2 ^ (A 0).toNat - nd)).2 = 1000000000 then -1 else (wqL A K O P0 nd (2 ^ (A 0).toNat - nd)).2 % 4096
theorem pi9_lt (P : Nat → Int) : ∀ t i : Nat, i < t → pi9 P t i = 2 ^ i
  | 0, i, h => absurd h (Nat.not_lt_zero _)
  | t + 1, i, h => by
    unfold pi9 ua
    by_cases e : i = t
    · rw [if_pos e, e]
    · rw [if_neg e]; exact pi9_lt P t i (by omega)
theorem pi9_r (P : Nat → Int) : ∀ i : Nat, i < 8 → 0 ≤ pi9 P 8 i ∧ pi9 P 8 i < 256 := by
  intro i h
  rw [pi9_lt P 8 i h]
  have := p2_le i 7 (by omega)
  omega
theorem jp9_v (P : Nat → Int) (x : Nat) : ∀ t i : Nat, jp9 P x t i = if i < t ∧ ((x : Nat) : Int) / 2 ^ i % 2 ^ 1 = 1 then (x : Int) else P i
  | 0, i => by rw [if_neg (by omega)]; rfl
  | t + 1, i => by
    have a := jp9_v P x t i
    unfold jp9
    split
    · next h =>
      by_cases e : i = t
      · subst e; rw [ua_at, if_pos ⟨by omega, h⟩]
      · rw [ua_ne _ _ e, a]
        by_cases g : i < t ∧ ((x : Nat) : Int) / 2 ^ i % 2 ^ 1 = 1
        · rw [if_pos g, if_pos ⟨by omega, g.2⟩]
        · rw [if_neg g, if_neg (fun z => g ⟨by omega, z.2⟩)]
    · next h =>
      rw [a]
      by_cases g : i < t ∧ ((x : Nat) : Int) / 2 ^ i % 2 ^ 1 = 1
      · rw [if_pos g, if_pos ⟨by omega, g.2⟩]
      · rw [if_neg g, if_neg (fun z => g ⟨by
          rcases Nat.lt_or_ge i t with q | q
          · exact q
          · exact absurd z.2 (by rw [show i = t by omega]; exact h), z.2⟩)]
theorem jp9_r {P : Nat → Int} {x : Nat} (hx : x < 256) (hP : ∀ i : Nat, i < 8 → 0 ≤ P i ∧ P i < 256) (t : Nat) : ∀ i : Nat, i < 8 → 0 ≤ jp9 P x t i ∧ jp9 P x t i < 256 := by
  intro i h
  rw [jp9_v]
  split
  · omega
  · exact hP i h
section WQ
variable {A K O P0 P : Nat → Int} {tw k o gr : Nat} {lim wt : Int}
theorem wqT_y (h : wqT A K O tw lim P0 k = (P, wt, gr)) (h1 : ¬ gr = tw) (h2 : ¬ lim ≤ wt) (ho : (O k).toNat = o) (c : (wb A o &&& tw = wb A o ∧ ¬ (P (A (30 + 4 * o + 0)).toNat).toNat &&& wb A o = wb A o) ∧ K o < A (30 + 4 * o + 3)) : wqT A K O tw lim P0 (k + 1) = (jp9 P ((P (A (30 + 4 * o + 0)).toNat).toNat ||| (P (A (30 + 4 * o + 1)).toNat).toNat) 8, wt + (A (30 + 4 * o + 2) * 4096 + 2 ^ o), (P (A (30 + 4 * o + 0)).toNat).toNat ||| (P (A (30 + 4 * o + 1)).toNat).toNat) := by
  unfold wqT
  rw [h, if_neg (by show ¬ (gr = tw ∨ lim ≤ wt); omega), ho]
  unfold wqS
  rw [if_pos c]
theorem wqT_n (h : wqT A K O tw lim P0 k = (P, wt, gr)) (h1 : ¬ gr = tw) (h2 : ¬ lim ≤ wt) (ho : (O k).toNat = o) (c : ¬ ((wb A o &&& tw = wb A o ∧ ¬ (P (A (30 + 4 * o + 0)).toNat).toNat &&& wb A o = wb A o) ∧ K o < A (30 + 4 * o + 3))) : wqT A K O tw lim P0 (k + 1) = (P, wt, gr) := by
  unfold wqT
  rw [h, if_neg (by show ¬ (gr = tw ∨ lim ≤ wt); omega), ho]
  unfold wqS
  rw [if_neg c]
theorem wqT_e (h : wqT A K O tw lim P0 k = (P, wt, gr)) : ∀ n : Nat, k ≤ n → (k = n ∨ gr = tw ∨ lim ≤ wt) → wqT A K O tw lim P0 n = (P, wt, gr)
  | 0, g, _ => by rw [← h, show k = 0 by omega]
  | n + 1, g, z => by
    by_cases e : k = n + 1
    · rw [← e, h]
    · have a := wqT_e h n (by omega) (by omega)
      unfold wqT
      rw [a, if_pos (by show gr = tw ∨ lim ≤ wt; omega)]
theorem wqR_t (h : gr = tw) : wqR tw (P, wt, gr) = wt := if_pos h
theorem wqR_f (h : ¬ gr = tw) : wqR tw (P, wt, gr) = 1000000000 := if_neg h
end WQ
theorem wqS_r {A K : Nat → Int} (hwi : wi A) (tw : Nat) {w : Nat} (hw : (w : Int) < A 1) (h12 : A 1 ≤ 12) {s : (Nat → Int) × Int × Nat} {z : Int} (h : 0 ≤ s.2.1 ∧ s.2.1 ≤ z) : 0 ≤ (wqS A K tw w s).2.1 ∧ (wqS A K tw w s).2.1 ≤ z + 4096000 := by
  have a := hwi w hw
  have b := p2_le w 11 (by omega)
  unfold wqS
  split
  · show 0 ≤ s.2.1 + (A (30 + 4 * w + 2) * 4096 + 2 ^ w) ∧ s.2.1 + (A (30 + 4 * w + 2) * 4096 + 2 ^ w) ≤ _
    omega
  · omega
theorem wqT_r {A K O : Nat → Int} (hwi : wi A) (h12 : A 1 ≤ 12) (hO : ∀ i : Nat, (i : Int) < A 1 → 0 ≤ O i ∧ O i < A 1) (tw : Nat) (lim : Int) (P0 : Nat → Int) : ∀ k : Nat, (k : Int) ≤ A 1 → 0 ≤ (wqT A K O tw lim P0 k).2.1 ∧ (wqT A K O tw lim P0 k).2.1 ≤ 4096000 * (k : Int)
  | 0, _ => ⟨Int.le_refl 0, by show (0 : Int) ≤ 4096000 * ((0 : Nat) : Int); omega⟩
  | k + 1, h => by
    have a := wqT_r (K := K) hwi h12 hO tw lim P0 k (by omega)
    have o := hO k (by omega)
    unfold wqT
    split
    · omega
    · have := wqS_r (K := K) hwi tw (w := (O k).toNat) (by omega) h12 a
      omega
theorem wqR_r {A K O : Nat → Int} (hwi : wi A) (h12 : 0 ≤ A 1 ∧ A 1 ≤ 12) (hO : ∀ i : Nat, (i : Int) < A 1 → 0 ≤ O i ∧ O i < A 1) (tw : Nat) (lim : Int) (P0 : Nat → Int) : 0 ≤ wqR tw (wqT A K O tw lim P0 (A 1).toNat) ∧ wqR tw (wqT A K O tw lim P0 (A 1).toNat) ≤ 1000000000 := by
  have a := wqT_r (K := K) hwi h12.2 hO tw lim P0 (A 1).toNat (by omega)
  unfold wqR
  split <;> omega
theorem wqL_s {A K O P0 : Nat → Int} {nd t : Nat} {P : Nat → Int} {ls : Int} (hle : nd ≤ t) (h : wqL A K O P0 nd (t - nd) = (P, ls)) (h1 : 0 < ls) (h2 : t &&& nd = nd) : wqL A K O P0 nd (t + 1 - nd) = ((wqT A K O t ls P (A 1).toNat).1, if wqR t (wqT A K O t ls P (A 1).toNat) < ls then wqR t (wqT A K O t ls P (A 1).toNat) else ls) := by
  rw [show t + 1 - nd = t - nd + 1 by omega]
  unfold wqL
  rw [h, if_neg (by show ¬ ls ≤ 0; omega), show nd + (t - nd) = t by omega, if_pos h2]
theorem wqL_k {A K O P0 : Nat → Int} {nd t : Nat} {P : Nat → Int} {ls : Int} (hle : nd ≤ t) (h : wqL A K O P0 nd (t - nd) = (P, ls)) (h2 : ¬ t &&& nd = nd) : wqL A K O P0 nd (t + 1 - nd) = (P, ls) := by
  rw [show t + 1 - nd = t - nd + 1 by omega]
  unfold wqL
  rw [h]
  split
  · rfl
  · rw [show nd + (t - nd) = t by omega, if_neg h2]
theorem wqL_e {A K O P0 : Nat → Int} {nd : Nat} {P : Nat → Int} {ls : Int} {k : Nat} (h : wqL A K O P0 nd k = (P, ls)) : ∀ n : Nat, k ≤ n → (k = n ∨ ls ≤ 0) → wqL A K O P0 nd n = (P, ls)
  | 0, g, _ => by rw [← h, show k = 0 by omega]
  | n + 1, g, z => by
    by_cases e : k = n + 1
    · rw [← e, h]
    · have a := wqL_e h n (by omega) (by omega)
      unfold wqL
      rw [a, if_pos (by show ls ≤ 0; omega)]

theorem dX10_lightestTree_0 : decode cX10_lightestTree 0 = .ok (.iconst 0, 1) := by decide +kernel
theorem dX10_lightestTree_1 : decode cX10_lightestTree 1 = .ok (.istore 4, 2) := by decide +kernel
theorem dX10_lightestTree_3 : decode cX10_lightestTree 3 = .ok (.iload 4, 2) := by decide +kernel
theorem dX10_lightestTree_5 : decode cX10_lightestTree 5 = .ok (.bipush 8, 2) := by decide +kernel
theorem dX10_lightestTree_7 : decode cX10_lightestTree 7 = .ok (.if_icmp .ge 20, 3) := by decide +kernel
theorem dX10_lightestTree_10 : decode cX10_lightestTree 10 = .ok (.aload_n 0, 1) := by decide +kernel
theorem dX10_lightestTree_11 : decode cX10_lightestTree 11 = .ok (.getfield 24, 3) := by decide +kernel
theorem dX10_lightestTree_14 : decode cX10_lightestTree 14 = .ok (.iload 4, 2) := by decide +kernel
theorem dX10_lightestTree_16 : decode cX10_lightestTree 16 = .ok (.iconst 1, 1) := by decide +kernel
theorem dX10_lightestTree_17 : decode cX10_lightestTree 17 = .ok (.iload 4, 2) := by decide +kernel
theorem dX10_lightestTree_19 : decode cX10_lightestTree 19 = .ok (.ishl, 1) := by decide +kernel
theorem dX10_lightestTree_20 : decode cX10_lightestTree 20 = .ok (.iastore, 1) := by decide +kernel
theorem dX10_lightestTree_21 : decode cX10_lightestTree 21 = .ok (.iinc 4 1, 3) := by decide +kernel
theorem dX10_lightestTree_24 : decode cX10_lightestTree 24 = .ok (.goto (-21), 3) := by decide +kernel
theorem dX10_lightestTree_27 : decode cX10_lightestTree 27 = .ok (.iconst 0, 1) := by decide +kernel
theorem dX10_lightestTree_28 : decode cX10_lightestTree 28 = .ok (.istore 4, 2) := by decide +kernel
theorem dX10_lightestTree_30 : decode cX10_lightestTree 30 = .ok (.iload_n 2, 1) := by decide +kernel
theorem dX10_lightestTree_31 : decode cX10_lightestTree 31 = .ok (.iload_n 2, 1) := by decide +kernel
theorem dX10_lightestTree_32 : decode cX10_lightestTree 32 = .ok (.ineg, 1) := by decide +kernel
theorem dX10_lightestTree_33 : decode cX10_lightestTree 33 = .ok (.iand, 1) := by decide +kernel
theorem dX10_lightestTree_34 : decode cX10_lightestTree 34 = .ok (.istore 5, 2) := by decide +kernel
theorem dX10_lightestTree_36 : decode cX10_lightestTree 36 = .ok (.iconst 0, 1) := by decide +kernel
theorem dX10_lightestTree_37 : decode cX10_lightestTree 37 = .ok (.istore 6, 2) := by decide +kernel
theorem dX10_lightestTree_39 : decode cX10_lightestTree 39 = .ok (.iload 6, 2) := by decide +kernel
theorem dX10_lightestTree_41 : decode cX10_lightestTree 41 = .ok (.aload_n 1, 1) := by decide +kernel
theorem dX10_lightestTree_42 : decode cX10_lightestTree 42 = .ok (.getfield 86, 3) := by decide +kernel
theorem dX10_lightestTree_45 : decode cX10_lightestTree 45 = .ok (.invokevirtual 41, 3) := by decide +kernel
theorem dX10_lightestTree_48 : decode cX10_lightestTree 48 = .ok (.if_icmp .ge 149, 3) := by decide +kernel
theorem dX10_lightestTree_51 : decode cX10_lightestTree 51 = .ok (.iload 5, 2) := by decide +kernel
theorem dX10_lightestTree_53 : decode cX10_lightestTree 53 = .ok (.iload_n 2, 1) := by decide +kernel
theorem dX10_lightestTree_54 : decode cX10_lightestTree 54 = .ok (.if_icmp .eq 143, 3) := by decide +kernel
theorem dX10_lightestTree_57 : decode cX10_lightestTree 57 = .ok (.iload 4, 2) := by decide +kernel
theorem dX10_lightestTree_59 : decode cX10_lightestTree 59 = .ok (.iload_n 3, 1) := by decide +kernel
theorem dX10_lightestTree_60 : decode cX10_lightestTree 60 = .ok (.if_icmp .ge 137, 3) := by decide +kernel
theorem dX10_lightestTree_63 : decode cX10_lightestTree 63 = .ok (.aload_n 0, 1) := by decide +kernel
theorem dX10_lightestTree_64 : decode cX10_lightestTree 64 = .ok (.getfield 21, 3) := by decide +kernel
theorem dX10_lightestTree_67 : decode cX10_lightestTree 67 = .ok (.iload 6, 2) := by decide +kernel
theorem dX10_lightestTree_69 : decode cX10_lightestTree 69 = .ok (.iaload, 1) := by decide +kernel
theorem dX10_lightestTree_70 : decode cX10_lightestTree 70 = .ok (.istore 7, 2) := by decide +kernel
theorem dX10_lightestTree_72 : decode cX10_lightestTree 72 = .ok (.aload_n 1, 1) := by decide +kernel
theorem dX10_lightestTree_73 : decode cX10_lightestTree 73 = .ok (.getfield 86, 3) := by decide +kernel
theorem dX10_lightestTree_76 : decode cX10_lightestTree 76 = .ok (.iload 7, 2) := by decide +kernel
theorem dX10_lightestTree_78 : decode cX10_lightestTree 78 = .ok (.invokevirtual 54, 3) := by decide +kernel
theorem dX10_lightestTree_81 : decode cX10_lightestTree 81 = .ok (.checkcast 89, 3) := by decide +kernel
theorem dX10_lightestTree_84 : decode cX10_lightestTree 84 = .ok (.astore 8, 2) := by decide +kernel
theorem dX10_lightestTree_86 : decode cX10_lightestTree 86 = .ok (.iconst 1, 1) := by decide +kernel
theorem dX10_lightestTree_87 : decode cX10_lightestTree 87 = .ok (.aload 8, 2) := by decide +kernel
theorem dX10_lightestTree_89 : decode cX10_lightestTree 89 = .ok (.getfield 111, 3) := by decide +kernel
theorem dX10_lightestTree_92 : decode cX10_lightestTree 92 = .ok (.ishl, 1) := by decide +kernel
theorem dX10_lightestTree_93 : decode cX10_lightestTree 93 = .ok (.iconst 1, 1) := by decide +kernel
theorem dX10_lightestTree_94 : decode cX10_lightestTree 94 = .ok (.aload 8, 2) := by decide +kernel
theorem dX10_lightestTree_96 : decode cX10_lightestTree 96 = .ok (.getfield 114, 3) := by decide +kernel
theorem dX10_lightestTree_99 : decode cX10_lightestTree 99 = .ok (.ishl, 1) := by decide +kernel
theorem dX10_lightestTree_100 : decode cX10_lightestTree 100 = .ok (.ior, 1) := by decide +kernel
theorem dX10_lightestTree_101 : decode cX10_lightestTree 101 = .ok (.istore 9, 2) := by decide +kernel
theorem dX10_lightestTree_103 : decode cX10_lightestTree 103 = .ok (.iload 9, 2) := by decide +kernel
theorem dX10_lightestTree_105 : decode cX10_lightestTree 105 = .ok (.iload_n 2, 1) := by decide +kernel
theorem dX10_lightestTree_106 : decode cX10_lightestTree 106 = .ok (.iand, 1) := by decide +kernel
theorem dX10_lightestTree_107 : decode cX10_lightestTree 107 = .ok (.iload 9, 2) := by decide +kernel
theorem dX10_lightestTree_109 : decode cX10_lightestTree 109 = .ok (.if_icmp .ne 82, 3) := by decide +kernel
theorem dX10_lightestTree_112 : decode cX10_lightestTree 112 = .ok (.aload_n 0, 1) := by decide +kernel
theorem dX10_lightestTree_113 : decode cX10_lightestTree 113 = .ok (.getfield 24, 3) := by decide +kernel
theorem dX10_lightestTree_116 : decode cX10_lightestTree 116 = .ok (.aload 8, 2) := by decide +kernel
theorem dX10_lightestTree_118 : decode cX10_lightestTree 118 = .ok (.getfield 111, 3) := by decide +kernel
theorem dX10_lightestTree_121 : decode cX10_lightestTree 121 = .ok (.iaload, 1) := by decide +kernel
theorem dX10_lightestTree_122 : decode cX10_lightestTree 122 = .ok (.iload 9, 2) := by decide +kernel
theorem dX10_lightestTree_124 : decode cX10_lightestTree 124 = .ok (.iand, 1) := by decide +kernel
theorem dX10_lightestTree_125 : decode cX10_lightestTree 125 = .ok (.iload 9, 2) := by decide +kernel
theorem dX10_lightestTree_127 : decode cX10_lightestTree 127 = .ok (.if_icmp .eq 64, 3) := by decide +kernel
theorem dX10_lightestTree_130 : decode cX10_lightestTree 130 = .ok (.aload_n 0, 1) := by decide +kernel
theorem dX10_lightestTree_131 : decode cX10_lightestTree 131 = .ok (.getfield 18, 3) := by decide +kernel
theorem dX10_lightestTree_134 : decode cX10_lightestTree 134 = .ok (.iload 7, 2) := by decide +kernel
theorem dX10_lightestTree_136 : decode cX10_lightestTree 136 = .ok (.iaload, 1) := by decide +kernel
theorem dX10_lightestTree_137 : decode cX10_lightestTree 137 = .ok (.aload 8, 2) := by decide +kernel
theorem dX10_lightestTree_139 : decode cX10_lightestTree 139 = .ok (.getfield 117, 3) := by decide +kernel
theorem dX10_lightestTree_142 : decode cX10_lightestTree 142 = .ok (.if_icmp .ge 49, 3) := by decide +kernel
theorem dX10_lightestTree_145 : decode cX10_lightestTree 145 = .ok (.iload 4, 2) := by decide +kernel
theorem dX10_lightestTree_147 : decode cX10_lightestTree 147 = .ok (.aload 8, 2) := by decide +kernel
theorem dX10_lightestTree_149 : decode cX10_lightestTree 149 = .ok (.getfield 91, 3) := by decide +kernel
theorem dX10_lightestTree_152 : decode cX10_lightestTree 152 = .ok (.sipush 4096, 3) := by decide +kernel
theorem dX10_lightestTree_155 : decode cX10_lightestTree 155 = .ok (.imul, 1) := by decide +kernel
theorem dX10_lightestTree_156 : decode cX10_lightestTree 156 = .ok (.iconst 1, 1) := by decide +kernel
theorem dX10_lightestTree_157 : decode cX10_lightestTree 157 = .ok (.iload 7, 2) := by decide +kernel
theorem dX10_lightestTree_159 : decode cX10_lightestTree 159 = .ok (.ishl, 1) := by decide +kernel
theorem dX10_lightestTree_160 : decode cX10_lightestTree 160 = .ok (.iadd, 1) := by decide +kernel
theorem dX10_lightestTree_161 : decode cX10_lightestTree 161 = .ok (.iadd, 1) := by decide +kernel
theorem dX10_lightestTree_162 : decode cX10_lightestTree 162 = .ok (.istore 4, 2) := by decide +kernel
theorem dX10_lightestTree_164 : decode cX10_lightestTree 164 = .ok (.aload_n 0, 1) := by decide +kernel
theorem dX10_lightestTree_165 : decode cX10_lightestTree 165 = .ok (.aload_n 0, 1) := by decide +kernel
theorem dX10_lightestTree_166 : decode cX10_lightestTree 166 = .ok (.getfield 24, 3) := by decide +kernel
theorem dX10_lightestTree_169 : decode cX10_lightestTree 169 = .ok (.aload 8, 2) := by decide +kernel
theorem dX10_lightestTree_171 : decode cX10_lightestTree 171 = .ok (.getfield 111, 3) := by decide +kernel
theorem dX10_lightestTree_174 : decode cX10_lightestTree 174 = .ok (.iaload, 1) := by decide +kernel
theorem dX10_lightestTree_175 : decode cX10_lightestTree 175 = .ok (.aload_n 0, 1) := by decide +kernel
theorem dX10_lightestTree_176 : decode cX10_lightestTree 176 = .ok (.getfield 24, 3) := by decide +kernel
theorem dX10_lightestTree_179 : decode cX10_lightestTree 179 = .ok (.aload 8, 2) := by decide +kernel
theorem dX10_lightestTree_181 : decode cX10_lightestTree 181 = .ok (.getfield 114, 3) := by decide +kernel
theorem dX10_lightestTree_184 : decode cX10_lightestTree 184 = .ok (.iaload, 1) := by decide +kernel
theorem dX10_lightestTree_185 : decode cX10_lightestTree 185 = .ok (.ior, 1) := by decide +kernel
theorem dX10_lightestTree_186 : decode cX10_lightestTree 186 = .ok (.invokevirtual 120, 3) := by decide +kernel
theorem dX10_lightestTree_189 : decode cX10_lightestTree 189 = .ok (.istore 5, 2) := by decide +kernel
theorem dX10_lightestTree_191 : decode cX10_lightestTree 191 = .ok (.iinc 6 1, 3) := by decide +kernel
theorem dX10_lightestTree_194 : decode cX10_lightestTree 194 = .ok (.goto (-155), 3) := by decide +kernel
theorem dX10_lightestTree_197 : decode cX10_lightestTree 197 = .ok (.iload 5, 2) := by decide +kernel
theorem dX10_lightestTree_199 : decode cX10_lightestTree 199 = .ok (.iload_n 2, 1) := by decide +kernel
theorem dX10_lightestTree_200 : decode cX10_lightestTree 200 = .ok (.if_icmp .ne 8, 3) := by decide +kernel
theorem dX10_lightestTree_203 : decode cX10_lightestTree 203 = .ok (.iload 4, 2) := by decide +kernel
theorem dX10_lightestTree_205 : decode cX10_lightestTree 205 = .ok (.goto 5, 3) := by decide +kernel
theorem dX10_lightestTree_208 : decode cX10_lightestTree 208 = .ok (.ldc 100, 2) := by decide +kernel
theorem dX10_lightestTree_210 : decode cX10_lightestTree 210 = .ok (.ireturn, 1) := by decide +kernel
theorem lc_X10_100 : Cond.constant RX10 100 (iz 1000000000) ∈ hk_tb := hk_tq4 168 (by decide +kernel) (by decide +kernel)
theorem fl_X10_111 : Cond.fieldLink RX10 111 "HookUps$Wire" (TX9 0).2.1 (TX9 0).2.2.1 ∈ hk_tb := hk_tq2 117 (by decide +kernel) (by decide +kernel)
theorem fl_X10_114 : Cond.fieldLink RX10 114 "HookUps$Wire" (TX9 1).2.1 (TX9 1).2.2.1 ∈ hk_tb := hk_tq2 119 (by decide +kernel) (by decide +kernel)
theorem fl_X10_117 : Cond.fieldLink RX10 117 "HookUps$Wire" (TX9 3).2.1 (TX9 3).2.2.1 ∈ hk_tb := hk_tq2 124 (by decide +kernel) (by decide +kernel)
theorem ck_X10_120 : zcV RX10 RX10 yX10_joinParts cX10_joinParts 3 (some .int) 120 1 := ⟨hk_tq4 176 (by decide +kernel) (by decide +kernel), hk_tq4 173 (by decide +kernel) (by decide +kernel), hk_tq1 8 (by decide +kernel) (by decide +kernel), ⟨by decide, by decide, by decide +kernel⟩, hk_tq4 175 (by decide +kernel) (by decide +kernel), hk_s 20 (by decide +kernel) (by decide +kernel)⟩
set_option maxRecDepth 100000 in
set_option maxHeartbeats 4000000 in
theorem k_X10_lightestTree_wa (l : Launch) {D : va_G} {ar : Nat → ClassId} {B : Nat → Prop} {b n : Nat} {w0 : zcW} (A : Nat → Int) (τ : Nat → Nat → Int) (tw : Nat) (lim : Int) (hA : ∀ i, inI (A i)) (hR : Rel9 ar b w0 A τ) (hc : cn A) (hwi : wi A) (htw : tw < 256) (r_lim : inI lim) (hO : ∀ i : Nat, (i : Int) < A 1 → 0 ≤ τ 28 i ∧ τ 28 i < A 1) (hK : ∀ i, i < 12 → inI (τ 27 i)) : zt_M l D ar B b w0 n yX10_lightestTree cX10_lightestTree 10 (some .int) 3 64 [.ref (b + 24), .ref (b + 1), .int (iz ((tw : Nat) : Int)), .int (iz lim)] τ (some (.int (iz (wqR tw (wqT A (τ 27) (τ 28) tw lim (τ 29) (A 1).toNat))))) (sA τ 29 (wqT A (τ 27) (τ 28) tw lim (τ 29) (A 1).toNat).1) := by
  refine zc_start (own := RX10) (by decide +kernel) rfl (Nat.le_of_ble_eq_true rfl) ?_
  intro p e s m args below meth c C K hr hlk hnam
  have n2 := hR.l2.1
  have hlow := low_le tw htw
  refine hv_iconst C dX10_lightestTree_0 ?_
  refine hv_istore C 4 [(4, .int (iz 0)), (0, .ref (b + 24)), (1, .ref (b + 1)), (2, .int (iz ((tw : Nat) : Int))), (3, .int (iz lim))] dX10_lightestTree_1 (by decide) rfl ?_
  have L3 : ∀ (f : Nat) (t : Nat) (P9 : Nat → Int), 8 - t < f → (t ≤ 8) → (P9 = pi9 (τ 29) t) → hvV p l e { frames := 3, cells := 0, slots := 0, locals := 64 } s m args below meth c 10 B 0 0 (MQ below (zc_Q D B (fun r' w' n' => r' = (some (.int (iz (wqR tw (wqT A (τ 27) (τ 28) tw lim (τ 29) (A 1).toNat))))) ∧ w' = cw ar b (sA τ 29 (wqT A (τ 27) (τ 28) tw lim (τ 29) (A 1).toNat).1) w0 ∧ n' = n)) args s 0 0 B) (zc_I D B (cw ar b (sA τ 29 P9) w0) n s.heap) 3 [(0, .ref (b + 24)), (1, .ref (b + 1)), (2, .int (iz ((tw : Nat) : Int))), (3, .int (iz lim)), (4, .int (iz ((t : Nat) : Int)))] [] := by
    intro f
    induction f with
    | zero => intro _ _ hm; exact absurd hm (Nat.not_lt_zero _)
    | succ f ih3 =>
      intro t P9 hm3 ht hP9
      refine hv_iload C 4 4 dX10_lightestTree_3 rfl ?_
      refine hv_bipush C dX10_lightestTree_5 (by decide) ?_
      refine hv_icmp_ge C 27 dX10_lightestTree_7 (by decide) (by omega) (by omega) (fun h7 => ?_) (fun h7 => ?_)
      · skip
        refine hv_iconst C dX10_lightestTree_27 ?_
        refine hv_istore C 4 [(4, .int (iz 0)), (0, .ref (b + 24)), (1, .ref (b + 1)), (2, .int (iz ((tw : Nat) : Int))), (3, .int (iz lim))] dX10_lightestTree_28 (by decide) rfl ?_
        refine hv_iload_n C 2 3 dX10_lightestTree_30 rfl rfl ?_
        refine hv_iload_n C 2 3 dX10_lightestTree_31 rfl rfl ?_
        refine hv_ineg C dX10_lightestTree_32 ?_
        refine hv_ilow C tw rfl rfl (by omega) dX10_lightestTree_33 ?_
        refine hv_istore C 5 [(5, .int (iz ((tw &&& (4096 - tw) : Nat) : Int))), (4, .int (iz 0)), (0, .ref (b + 24)), (1, .ref (b + 1)), (2, .int (iz ((tw : Nat) : Int))), (3, .int (iz lim))] dX10_lightestTree_34 (by decide) rfl ?_
        refine hv_iconst C dX10_lightestTree_36 ?_
        refine hv_istore C 6 [(6, .int (iz 0)), (5, .int (iz ((tw &&& (4096 - tw) : Nat) : Int))), (4, .int (iz 0)), (0, .ref (b + 24)), (1, .ref (b + 1)), (2, .int (iz ((tw : Nat) : Int))), (3, .int (iz lim))] dX10_lightestTree_37 (by decide) rfl ?_
        have L39 : ∀ (f : Nat) (wt : Int) (gr : Nat) (k : Nat) (P8 : Nat → Int), (A 1).toNat - k < f → ((k : Int) ≤ A 1) → (wqT A (τ 27) (τ 28) tw lim (τ 29) k = (P8, wt, gr)) → (∀ i, i < 8 → 0 ≤ P8 i ∧ P8 i < 256) → (0 ≤ wt ∧ wt ≤ 4096000 * (k : Int)) → (gr < 256) → hvV p l e { frames := 3, cells := 0, slots := 0, locals := 64 } s m args below meth c 10 B 0 0 (MQ below (zc_Q D B (fun r' w' n' => r' = (some (.int (iz (wqR tw (wqT A (τ 27) (τ 28) tw lim (τ 29) (A 1).toNat))))) ∧ w' = cw ar b (sA τ 29 (wqT A (τ 27) (τ 28) tw lim (τ 29) (A 1).toNat).1) w0 ∧ n' = n)) args s 0 0 B) (zc_I D B (cw ar b (sA τ 29 P8) w0) n s.heap) 39 [(0, .ref (b + 24)), (1, .ref (b + 1)), (2, .int (iz ((tw : Nat) : Int))), (3, .int (iz lim)), (4, .int (iz wt)), (5, .int (iz ((gr : Nat) : Int))), (6, .int (iz ((k : Nat) : Int)))] [] := by
          intro f
          induction f with
          | zero => intro _ _ _ _ hm; exact absurd hm (Nat.not_lt_zero _)
          | succ f ih39 =>
            intro wt gr k P8 hm39 hk hT hP hwt hgr
            refine hv_iload C 6 6 dX10_lightestTree_39 rfl ?_
            refine hv_aload_n C 1 1 dX10_lightestTree_41 rfl rfl ?_
            refine zc_get C K (v := .ref (b + 2)) 1 rfl hu_9 (by decide) (cw_at 1 rfl) rfl fl_X10_86 rfl dX10_lightestTree_42 ?_
            refine zt_callV [] [.int (iz ((k : Nat) : Int))] C K (cw_at 2 rfl) rfl (k_Jx4a65c_size_8abf5 l 2 (sA τ 29 P8)  rfl) ck_X10_41 (by decide) ⟨Nat.zero_le _, Nat.zero_le _⟩ rfl (Nat.le_of_ble_eq_true rfl) dX10_lightestTree_45 ?_
            refine hv_as ((τ 2 2)) rfl ?_
            refine hv_nm (fun x1 ex1 => ?_)
            have rx1 : inI x1 := by rw [ex1]; exact (by have z := hA 1; omega)
            refine hv_icmp_ge C 197 dX10_lightestTree_48 (by decide) (by omega) (by omega) (fun h48 => ?_) (fun h48 => ?_)
            · skip
              have zT := wqT_e hT (A 1).toNat (by omega) (by omega)
              refine hv_iload C 5 5 dX10_lightestTree_197 rfl ?_
              refine hv_iload_n C 2 2 dX10_lightestTree_199 rfl rfl ?_
              refine hv_icmp_ne C 208 dX10_lightestTree_200 (by decide) (by omega) (by omega) (fun h200 => ?_) (fun h200 => ?_)
              · skip
                refine hv_ldc C (n := 1000000000) lc_X10_100 dX10_lightestTree_208 ?_
                exact zt_iret C hr hlk (by rw [zT]; first | exact (wqR_t (by omega)).symm | exact (wqR_f (by omega)).symm) (by rw [zT]) dX10_lightestTree_210
              · skip
                refine hv_iload C 4 4 dX10_lightestTree_203 rfl ?_
                refine hv_goto C 210 dX10_lightestTree_205 (by decide) ?_
                exact zt_iret C hr hlk (by rw [zT]; first | exact (wqR_t (by omega)).symm | exact (wqR_f (by omega)).symm) (by rw [zT]) dX10_lightestTree_210
            · skip
              refine hv_iload C 5 5 dX10_lightestTree_51 rfl ?_
              refine hv_iload_n C 2 2 dX10_lightestTree_53 rfl rfl ?_
              refine hv_icmp_eq C 197 dX10_lightestTree_54 (by decide) (by omega) (by omega) (fun h54 => ?_) (fun h54 => ?_)
              · skip
                have zT := wqT_e hT (A 1).toNat (by omega) (by omega)
                refine hv_iload C 5 5 dX10_lightestTree_197 rfl ?_
                refine hv_iload_n C 2 2 dX10_lightestTree_199 rfl rfl ?_
                refine hv_icmp_ne C 208 dX10_lightestTree_200 (by decide) (by omega) (by omega) (fun h200 => ?_) (fun h200 => ?_)
                · skip
                  refine hv_ldc C (n := 1000000000) lc_X10_100 dX10_lightestTree_208 ?_
                  exact zt_iret C hr hlk (by rw [zT]; first | exact (wqR_t (by omega)).symm | exact (wqR_f (by omega)).symm) (by rw [zT]) dX10_lightestTree_210
                · skip
                  refine hv_iload C 4 4 dX10_lightestTree_203 rfl ?_
                  refine hv_goto C 210 dX10_lightestTree_205 (by decide) ?_
                  exact zt_iret C hr hlk (by rw [zT]; first | exact (wqR_t (by omega)).symm | exact (wqR_f (by omega)).symm) (by rw [zT]) dX10_lightestTree_210
              · skip
                refine hv_iload C 4 4 dX10_lightestTree_57 rfl ?_
                refine hv_iload_n C 3 3 dX10_lightestTree_59 rfl rfl ?_
                refine hv_icmp_ge C 197 dX10_lightestTree_60 (by decide) (by omega) (by omega) (fun h60 => ?_) (fun h60 => ?_)
                · skip
                  have zT := wqT_e hT (A 1).toNat (by omega) (by omega)
                  refine hv_iload C 5 5 dX10_lightestTree_197 rfl ?_
                  refine hv_iload_n C 2 2 dX10_lightestTree_199 rfl rfl ?_
                  refine hv_icmp_ne C 208 dX10_lightestTree_200 (by decide) (by omega) (by omega) (fun h200 => ?_) (fun h200 => ?_)
                  · skip
                    refine hv_ldc C (n := 1000000000) lc_X10_100 dX10_lightestTree_208 ?_
                    exact zt_iret C hr hlk (by rw [zT]; first | exact (wqR_t (by omega)).symm | exact (wqR_f (by omega)).symm) (by rw [zT]) dX10_lightestTree_210
                  · skip
                    refine hv_iload C 4 4 dX10_lightestTree_203 rfl ?_
                    refine hv_goto C 210 dX10_lightestTree_205 (by decide) ?_
                    exact zt_iret C hr hlk (by rw [zT]; first | exact (wqR_t (by omega)).symm | exact (wqR_f (by omega)).symm) (by rw [zT]) dX10_lightestTree_210
                · skip
                  have zok := hO k (by omega)
                  refine hv_aload_n C 0 0 dX10_lightestTree_63 rfl rfl ?_
                  refine zc_get C K (v := .ref (b + 28)) 3 rfl hu_11 (by decide) (cw_at 24 rfl) rfl fl_X10_21 rfl dX10_lightestTree_64 ?_
                  refine hv_iload C 6 6 dX10_lightestTree_67 rfl ?_
                  refine zc_iald C K (f := (τ 28)) k (cw_at 28 rfl) (by omega) (by omega) (by decide) dX10_lightestTree_69 ?_
                  refine hv_as (τ 28 k) rfl ?_
                  refine hv_nm (fun x2 ex2 => ?_)
                  obtain ⟨oN, rfl⟩ : ∃ n9 : Nat, x2 = (n9 : Int) := ⟨(x2).toNat, by omega⟩
                  have zqo : (τ 28 k).toNat = oN := by omega
                  have zw := hwi oN (by omega)
                  have hwb := wb_lt hc hwi (w := oN) (by omega)
                  have zp2 := p2_le oN 11 (by omega)
                  refine hv_istore C 7 [(7, .int (iz ((oN : Nat) : Int))), (0, .ref (b + 24)), (1, .ref (b + 1)), (2, .int (iz ((tw : Nat) : Int))), (3, .int (iz lim)), (4, .int (iz wt)), (5, .int (iz ((gr : Nat) : Int))), (6, .int (iz ((k : Nat) : Int)))] dX10_lightestTree_70 (by decide) rfl ?_
                  refine hv_aload_n C 1 2 dX10_lightestTree_72 rfl rfl ?_
                  refine zc_get C K (v := .ref (b + 2)) 1 rfl hu_9 (by decide) (cw_at 1 rfl) rfl fl_X10_86 rfl dX10_lightestTree_73 ?_
                  refine hv_iload C 7 0 dX10_lightestTree_76 rfl ?_
                  obtain ⟨p3, i3, o3⟩ := ((by repeat (first | exact hR | refine rl_sA (by decide) ?_)) : Rel9 ar b w0 A (sA τ 29 P8)).l2.2 oN (by omega)
                  refine zt_callV [.int (iz ((oN : Nat) : Int))] [] C K (cw_at 2 rfl) rfl (k_Jx4a65c_get_915e3 l 2 p3 (sA τ 29 P8) oN rfl i3) ck_X10_54 (by decide) ⟨Nat.zero_le _, Nat.zero_le _⟩ rfl (Nat.le_of_ble_eq_true rfl) dX10_lightestTree_78 ?_
                  refine zc_cast C K (cw_ob o3) (hc := rfl) cl_X10_89 dX10_lightestTree_81 ?_
                  refine hv_astore C 8 [(8, .ref p3), (7, .int (iz ((oN : Nat) : Int))), (0, .ref (b + 24)), (1, .ref (b + 1)), (2, .int (iz ((tw : Nat) : Int))), (3, .int (iz lim)), (4, .int (iz wt)), (5, .int (iz ((gr : Nat) : Int))), (6, .int (iz ((k : Nat) : Int)))] dX10_lightestTree_84 (by decide) rfl ?_
                  refine hv_iconst C dX10_lightestTree_86 ?_
                  refine hv_aload C 8 0 dX10_lightestTree_87 rfl ?_
                  refine zc_get C K (v := .int (iz (A (30 + 4 * oN + 0)))) 0 rfl hu_10 (by decide) (cw_ob o3) rfl fl_X10_111 rfl dX10_lightestTree_89 ?_
                  refine hv_nm (fun x4 ex4 => ?_)
                  have rx4 : inI x4 := by rw [ex4]; exact (hA _)
                  obtain ⟨aN, rfl⟩ : ∃ n9 : Nat, x4 = (n9 : Int) := ⟨(x4).toNat, by omega⟩
                  have zaN : (A (30 + 4 * oN + 0)).toNat = aN := by omega
                  refine hv_ishl1 C aN (by omega) (by omega) dX10_lightestTree_92 ?_
                  refine hv_iconst C dX10_lightestTree_93 ?_
                  refine hv_aload C 8 0 dX10_lightestTree_94 rfl ?_
                  refine zc_get C K (v := .int (iz (A (30 + 4 * oN + 1)))) 1 rfl hu_10 (by decide) (cw_ob o3) rfl fl_X10_114 rfl dX10_lightestTree_96 ?_
                  refine hv_nm (fun x5 ex5 => ?_)
                  have rx5 : inI x5 := by rw [ex5]; exact (hA _)
                  obtain ⟨bN, rfl⟩ : ∃ n9 : Nat, x5 = (n9 : Int) := ⟨(x5).toNat, by omega⟩
                  have zbN : (A (30 + 4 * oN + 1)).toNat = bN := by omega
                  refine hv_ishl1 C bN (by omega) (by omega) dX10_lightestTree_99 ?_
                  refine hv_iorn C (2 ^ aN) (2 ^ bN) (by simp) (by simp) dX10_lightestTree_100 ?_
                  refine hv_as (((wb A oN : Nat) : Int)) (by unfold wb; rw [zaN, zbN]) ?_
                  refine hv_istore C 9 [(9, .int (iz ((wb A oN : Nat) : Int))), (8, .ref p3), (7, .int (iz ((oN : Nat) : Int))), (0, .ref (b + 24)), (1, .ref (b + 1)), (2, .int (iz ((tw : Nat) : Int))), (3, .int (iz lim)), (4, .int (iz wt)), (5, .int (iz ((gr : Nat) : Int))), (6, .int (iz ((k : Nat) : Int)))] dX10_lightestTree_101 (by decide) rfl ?_
                  refine hv_iload C 9 0 dX10_lightestTree_103 rfl ?_
                  refine hv_iload_n C 2 5 dX10_lightestTree_105 rfl rfl ?_
                  refine hv_iandn C (wb A oN) tw rfl rfl dX10_lightestTree_106 ?_
                  have na106 : ((wb A oN) &&& tw) ≤ (wb A oN) := Nat.and_le_left
                  refine hv_iload C 9 0 dX10_lightestTree_107 rfl ?_
                  refine hv_icmp_ne C 191 dX10_lightestTree_109 (by decide) (by omega) (by omega) (fun h109 => ?_) (fun h109 => ?_)
                  · skip
                    refine hv_iinc C 6 9 [(6, .int (iz (((k : Nat) : Int) + 1))), (9, .int (iz ((wb A oN : Nat) : Int))), (8, .ref p3), (7, .int (iz ((oN : Nat) : Int))), (0, .ref (b + 24)), (1, .ref (b + 1)), (2, .int (iz ((tw : Nat) : Int))), (3, .int (iz lim)), (4, .int (iz wt)), (5, .int (iz ((gr : Nat) : Int)))] dX10_lightestTree_191 rfl (by decide) rfl ?_
                    refine hv_goto C 39 dX10_lightestTree_194 (by decide) ?_
                    refine hv_loc [4, 5, 6, 7, 8, 9, 0] [(0, .ref (b + 24)), (1, .ref (b + 1)), (2, .int (iz ((tw : Nat) : Int))), (3, .int (iz lim)), (4, .int (iz wt)), (5, .int (iz ((gr : Nat) : Int))), (6, .int (iz (((k : Nat) : Int) + 1)))] rfl ?_
                    exact ih39 wt gr (k + 1) P8 (by omega) (by omega) (by first | exact (wqT_n hT (by omega) (by omega) zqo (fun z9 => by have z8 := z9.1.1; have z7 := z9.1.2; have z6 := z9.2; rw [zaN] at z7; first | omega | (rw [zpN] at z7; omega))) | exact (by rw [wqT_y hT (by omega) (by omega) zqo ⟨⟨by omega, by rw [zaN, zpN]; omega⟩, by omega⟩, zaN, zbN, zpN, zpb]; simp only [Prod.mk.injEq, true_and, and_true]; omega)) (by first | exact hP | exact jp9_r zor hP 8) (by omega) (by first | omega | exact zor)
                  · skip
                    refine hv_aload_n C 0 3 dX10_lightestTree_112 rfl rfl ?_
                    refine zc_get C K (v := .ref (b + 29)) 4 rfl hu_11 (by decide) (cw_at 24 rfl) rfl fl_X10_24 rfl dX10_lightestTree_113 ?_
                    refine hv_aload C 8 1 dX10_lightestTree_116 rfl ?_
                    refine zc_get C K (v := .int (iz (A (30 + 4 * oN + 0)))) 0 rfl hu_10 (by decide) (cw_ob o3) rfl fl_X10_111 rfl dX10_lightestTree_118 ?_
                    refine hv_nm (fun x6 ex6 => ?_)
                    have rx6 : inI x6 := by rw [ex6]; exact (hA _)
                    refine hv_as (((aN : Nat) : Int)) (by omega) ?_
                    refine zc_iald C K (f := P8) aN (cw_at 29 rfl) (by omega) (by omega) (by decide) dX10_lightestTree_121 ?_
                    refine hv_nm (fun x7 ex7 => ?_)
                    have zpr := hP aN (by omega)
                    obtain ⟨pN, rfl⟩ : ∃ n9 : Nat, x7 = (n9 : Int) := ⟨(x7).toNat, by omega⟩
                    have zpN : (P8 aN).toNat = pN := by omega
                    refine hv_iload C 9 0 dX10_lightestTree_122 rfl ?_
                    refine hv_iandn C pN (wb A oN) rfl rfl dX10_lightestTree_124 ?_
                    have na124 : (pN &&& (wb A oN)) ≤ pN := Nat.and_le_left
                    refine hv_iload C 9 0 dX10_lightestTree_125 rfl ?_
                    refine hv_icmp_eq C 191 dX10_lightestTree_127 (by decide) (by omega) (by omega) (fun h127 => ?_) (fun h127 => ?_)
                    · skip
                      refine hv_iinc C 6 9 [(6, .int (iz (((k : Nat) : Int) + 1))), (9, .int (iz ((wb A oN : Nat) : Int))), (8, .ref p3), (7, .int (iz ((oN : Nat) : Int))), (0, .ref (b + 24)), (1, .ref (b + 1)), (2, .int (iz ((tw : Nat) : Int))), (3, .int (iz lim)), (4, .int (iz wt)), (5, .int (iz ((gr : Nat) : Int)))] dX10_lightestTree_191 rfl (by decide) rfl ?_
                      refine hv_goto C 39 dX10_lightestTree_194 (by decide) ?_
                      refine hv_loc [4, 5, 6, 7, 8, 9, 0] [(0, .ref (b + 24)), (1, .ref (b + 1)), (2, .int (iz ((tw : Nat) : Int))), (3, .int (iz lim)), (4, .int (iz wt)), (5, .int (iz ((gr : Nat) : Int))), (6, .int (iz (((k : Nat) : Int) + 1)))] rfl ?_
                      exact ih39 wt gr (k + 1) P8 (by omega) (by omega) (by first | exact (wqT_n hT (by omega) (by omega) zqo (fun z9 => by have z8 := z9.1.1; have z7 := z9.1.2; have z6 := z9.2; rw [zaN] at z7; first | omega | (rw [zpN] at z7; omega))) | exact (by rw [wqT_y hT (by omega) (by omega) zqo ⟨⟨by omega, by rw [zaN, zpN]; omega⟩, by omega⟩, zaN, zbN, zpN, zpb]; simp only [Prod.mk.injEq, true_and, and_true]; omega)) (by first | exact hP | exact jp9_r zor hP 8) (by omega) (by first | omega | exact zor)
                    · skip
                      refine hv_aload_n C 0 3 dX10_lightestTree_130 rfl rfl ?_
                      refine zc_get C K (v := .ref (b + 27)) 2 rfl hu_11 (by decide) (cw_at 24 rfl) rfl fl_X10_18 rfl dX10_lightestTree_131 ?_
                      refine hv_iload C 7 2 dX10_lightestTree_134 rfl ?_
                      refine zc_iald C K (f := (τ 27)) oN (cw_at 27 rfl) (by omega) (by omega) (by decide) dX10_lightestTree_136 ?_
                      refine hv_as (τ 27 oN) rfl ?_
                      refine hv_nm (fun x8 ex8 => ?_)
                      have rx8 : inI x8 := by rw [ex8]; exact hK oN (by omega)
                      refine hv_aload C 8 1 dX10_lightestTree_137 rfl ?_
                      refine zc_get C K (v := .int (iz (A (30 + 4 * oN + 3)))) 3 rfl hu_10 (by decide) (cw_ob o3) rfl fl_X10_117 rfl dX10_lightestTree_139 ?_
                      refine hv_nm (fun x9 ex9 => ?_)
                      have rx9 : inI x9 := by rw [ex9]; exact (hA _)
                      refine hv_icmp_ge C 191 dX10_lightestTree_142 (by decide) (by omega) (by omega) (fun h142 => ?_) (fun h142 => ?_)
                      · skip
                        refine hv_iinc C 6 9 [(6, .int (iz (((k : Nat) : Int) + 1))), (9, .int (iz ((wb A oN : Nat) : Int))), (8, .ref p3), (7, .int (iz ((oN : Nat) : Int))), (0, .ref (b + 24)), (1, .ref (b + 1)), (2, .int (iz ((tw : Nat) : Int))), (3, .int (iz lim)), (4, .int (iz wt)), (5, .int (iz ((gr : Nat) : Int)))] dX10_lightestTree_191 rfl (by decide) rfl ?_
                        refine hv_goto C 39 dX10_lightestTree_194 (by decide) ?_
                        refine hv_loc [4, 5, 6, 7, 8, 9, 0] [(0, .ref (b + 24)), (1, .ref (b + 1)), (2, .int (iz ((tw : Nat) : Int))), (3, .int (iz lim)), (4, .int (iz wt)), (5, .int (iz ((gr : Nat) : Int))), (6, .int (iz (((k : Nat) : Int) + 1)))] rfl ?_
                        exact ih39 wt gr (k + 1) P8 (by omega) (by omega) (by first | exact (wqT_n hT (by omega) (by omega) zqo (fun z9 => by have z8 := z9.1.1; have z7 := z9.1.2; have z6 := z9.2; rw [zaN] at z7; first | omega | (rw [zpN] at z7; omega))) | exact (by rw [wqT_y hT (by omega) (by omega) zqo ⟨⟨by omega, by rw [zaN, zpN]; omega⟩, by omega⟩, zaN, zbN, zpN, zpb]; simp only [Prod.mk.injEq, true_and, and_true]; omega)) (by first | exact hP | exact jp9_r zor hP 8) (by omega) (by first | omega | exact zor)
                      · skip
                        refine hv_iload C 4 7 dX10_lightestTree_145 rfl ?_
                        refine hv_aload C 8 1 dX10_lightestTree_147 rfl ?_
                        refine zc_get C K (v := .int (iz (A (30 + 4 * oN + 2)))) 2 rfl hu_10 (by decide) (cw_ob o3) rfl fl_X10_91 rfl dX10_lightestTree_149 ?_
                        refine hv_nm (fun x10 ex10 => ?_)
                        have rx10 : inI x10 := by rw [ex10]; exact (hA _)
                        refine hv_sipush C dX10_lightestTree_152 (by decide) ?_
                        refine hv_imul C dX10_lightestTree_155 ?_
                        refine hv_iconst C dX10_lightestTree_156 ?_
                        refine hv_iload C 7 2 dX10_lightestTree_157 rfl ?_
                        refine hv_ishl1 C oN (by omega) (by omega) dX10_lightestTree_159 ?_
                        refine hv_iadd C dX10_lightestTree_160 ?_
                        refine hv_iadd C dX10_lightestTree_161 ?_
                        refine hv_istore C 4 [(4, .int (iz (wt + ((x10 * 4096) + ((2 : Int) ^ oN))))), (9, .int (iz ((wb A oN : Nat) : Int))), (8, .ref p3), (7, .int (iz ((oN : Nat) : Int))), (0, .ref (b + 24)), (1, .ref (b + 1)), (2, .int (iz ((tw : Nat) : Int))), (3, .int (iz lim)), (5, .int (iz ((gr : Nat) : Int))), (6, .int (iz ((k : Nat) : Int)))] dX10_lightestTree_162 (by decide) rfl ?_
                        refine hv_aload_n C 0 4 dX10_lightestTree_164 rfl rfl ?_
                        refine hv_aload_n C 0 4 dX10_lightestTree_165 rfl rfl ?_
                        refine zc_get C K (v := .ref (b + 29)) 4 rfl hu_11 (by decide) (cw_at 24 rfl) rfl fl_X10_24 rfl dX10_lightestTree_166 ?_
                        refine hv_aload C 8 2 dX10_lightestTree_169 rfl ?_
                        refine zc_get C K (v := .int (iz (A (30 + 4 * oN + 0)))) 0 rfl hu_10 (by decide) (cw_ob o3) rfl fl_X10_111 rfl dX10_lightestTree_171 ?_
                        refine hv_nm (fun x11 ex11 => ?_)
                        have rx11 : inI x11 := by rw [ex11]; exact (hA _)
                        refine hv_as (((aN : Nat) : Int)) (by omega) ?_
                        refine zc_iald C K (f := P8) aN (cw_at 29 rfl) (by omega) (by omega) (by decide) dX10_lightestTree_174 ?_
                        refine hv_nm (fun x12 ex12 => ?_)
                        refine hv_as (((pN : Nat) : Int)) (by omega) ?_
                        refine hv_aload_n C 0 4 dX10_lightestTree_175 rfl rfl ?_
                        refine zc_get C K (v := .ref (b + 29)) 4 rfl hu_11 (by decide) (cw_at 24 rfl) rfl fl_X10_24 rfl dX10_lightestTree_176 ?_
                        refine hv_aload C 8 2 dX10_lightestTree_179 rfl ?_
                        refine zc_get C K (v := .int (iz (A (30 + 4 * oN + 1)))) 1 rfl hu_10 (by decide) (cw_ob o3) rfl fl_X10_114 rfl dX10_lightestTree_181 ?_
                        refine hv_nm (fun x13 ex13 => ?_)
                        have rx13 : inI x13 := by rw [ex13]; exact (hA _)
                        refine hv_as (((bN : Nat) : Int)) (by omega) ?_
                        refine zc_iald C K (f := P8) bN (cw_at 29 rfl) (by omega) (by omega) (by decide) dX10_lightestTree_184 ?_
                        refine hv_nm (fun x14 ex14 => ?_)
                        have zpr2 := hP bN (by omega)
                        obtain ⟨pb, rfl⟩ : ∃ n9 : Nat, x14 = (n9 : Int) := ⟨(x14).toNat, by omega⟩
                        have zpb : (P8 bN).toNat = pb := by omega
                        have zor : pN ||| pb < 256 := Nat.or_lt_two_pow (n := 8) (by omega) (by omega)
                        refine hv_iorn C pN pb rfl rfl dX10_lightestTree_185 ?_
                        refine zt_callV [.int (iz ((pN ||| pb : Nat) : Int))] [] C K (cw_at 24 rfl) rfl (k_X10_joinParts_wa l  (sA τ 29 P8) (pN ||| pb) zor) ck_X10_120 (by decide) ⟨Nat.zero_le _, Nat.zero_le _⟩ rfl (Nat.le_of_ble_eq_true rfl) dX10_lightestTree_186 ?_
                        refine hv_as (((pN ||| pb : Nat) : Int)) rfl ?_
                        refine zt_st (τ2 := sA τ 29 (jp9 P8 (pN ||| pb) 8)) (by first | rfl | (funext j9; by_cases hj29 : j9 = 29; (subst hj29; first | rfl | exact ua_ua | (funext i9; simp only [sA, ua]; (repeat' split) <;> first | rfl | (exfalso; omega) | (subst_vars; rfl))); simp only [sA, if_neg hj29])) ?_
                        refine hv_istore C 5 [(5, .int (iz ((pN ||| pb : Nat) : Int))), (4, .int (iz (wt + ((x10 * 4096) + ((2 : Int) ^ oN))))), (9, .int (iz ((wb A oN : Nat) : Int))), (8, .ref p3), (7, .int (iz ((oN : Nat) : Int))), (0, .ref (b + 24)), (1, .ref (b + 1)), (2, .int (iz ((tw : Nat) : Int))), (3, .int (iz lim)), (6, .int (iz ((k : Nat) : Int)))] dX10_lightestTree_189 (by decide) rfl ?_
                        refine hv_iinc C 6 9 [(6, .int (iz (((k : Nat) : Int) + 1))), (5, .int (iz ((pN ||| pb : Nat) : Int))), (4, .int (iz (wt + ((x10 * 4096) + ((2 : Int) ^ oN))))), (9, .int (iz ((wb A oN : Nat) : Int))), (8, .ref p3), (7, .int (iz ((oN : Nat) : Int))), (0, .ref (b + 24)), (1, .ref (b + 1)), (2, .int (iz ((tw : Nat) : Int))), (3, .int (iz lim))] dX10_lightestTree_191 rfl (by decide) rfl ?_
                        refine hv_goto C 39 dX10_lightestTree_194 (by decide) ?_
                        refine hv_loc [6, 7, 8, 9, 2, 1, 0] [(0, .ref (b + 24)), (1, .ref (b + 1)), (2, .int (iz ((tw : Nat) : Int))), (3, .int (iz lim)), (4, .int (iz (wt + ((x10 * 4096) + ((2 : Int) ^ oN))))), (5, .int (iz ((pN ||| pb : Nat) : Int))), (6, .int (iz (((k : Nat) : Int) + 1)))] rfl ?_
                        exact ih39 (wt + ((x10 * 4096) + ((2 : Int) ^ oN))) (pN ||| pb) (k + 1) (jp9 P8 (pN ||| pb) 8) (by omega) (by omega) (by first | exact (wqT_n hT (by omega) (by omega) zqo (fun z9 => by have z8 := z9.1.1; have z7 := z9.1.2; have z6 := z9.2; rw [zaN] at z7; first | omega | (rw [zpN] at z7; omega))) | exact (by rw [wqT_y hT (by omega) (by omega) zqo ⟨⟨by omega, by rw [zaN, zpN]; omega⟩, by omega⟩, zaN, zbN, zpN, zpb]; simp only [Prod.mk.injEq, true_and, and_true]; omega)) (by first | exact hP | exact jp9_r zor hP 8) (by omega) (by first | omega | exact zor)
        refine hv_loc [3, 4, 5, 6, 2, 1, 0] [(0, .ref (b + 24)), (1, .ref (b + 1)), (2, .int (iz ((tw : Nat) : Int))), (3, .int (iz lim)), (4, .int (iz 0)), (5, .int (iz ((tw &&& (4096 - tw) : Nat) : Int))), (6, .int (iz 0))] rfl ?_
        exact L39 _ 0 (tw &&& (4096 - tw)) 0 P9 (Nat.lt_succ_self _) (by omega) (by rw [hP9, show t = 8 by omega]; rfl) (by rw [hP9, show t = 8 by omega]; exact pi9_r _) (by omega) (by omega)
      · skip
        refine hv_aload_n C 0 0 dX10_lightestTree_10 rfl rfl ?_
        refine zc_get C K (v := .ref (b + 29)) 4 rfl hu_11 (by decide) (cw_at 24 rfl) rfl fl_X10_24 rfl dX10_lightestTree_11 ?_
        refine hv_iload C 4 4 dX10_lightestTree_14 rfl ?_
        refine hv_iconst C dX10_lightestTree_16 ?_
        refine hv_iload C 4 4 dX10_lightestTree_17 rfl ?_
        refine hv_ishl1 C t (by omega) (by omega) dX10_lightestTree_19 ?_
        refine zc_iast C K (f := P9) t (cw_at 29 rfl) (cw_set 29 t ((2 : Int) ^ t) rfl) (by omega) (by omega) (by decide) dX10_lightestTree_20 ?_
        refine zt_st (τ2 := sA τ 29 (ua P9 t ((2 : Int) ^ t))) (by rw [u2_sA, sA_sA]; first | done | rfl) ?_
        refine hv_iinc C 4 4 [(4, .int (iz (((t : Nat) : Int) + 1))), (0, .ref (b + 24)), (1, .ref (b + 1)), (2, .int (iz ((tw : Nat) : Int))), (3, .int (iz lim))] dX10_lightestTree_21 rfl (by decide) rfl ?_
        refine hv_goto C 3 dX10_lightestTree_24 (by decide) ?_
        refine hv_loc [1, 2, 3, 4, 0] [(0, .ref (b + 24)), (1, .ref (b + 1)), (2, .int (iz ((tw : Nat) : Int))), (3, .int (iz lim)), (4, .int (iz (((t : Nat) : Int) + 1)))] rfl ?_
        exact ih3 (t + 1) (ua P9 t ((2 : Int) ^ t)) (by omega) (by omega) (by rw [hP9]; rfl)
  refine hv_loc [1, 2, 3, 4, 0] [(0, .ref (b + 24)), (1, .ref (b + 1)), (2, .int (iz ((tw : Nat) : Int))), (3, .int (iz lim)), (4, .int (iz 0))] rfl ?_
  refine zt_st (τ2 := sA τ 29 (τ 29)) ((sA_id τ 29).symm) ?_
  exact L3 _ 0 (τ 29) (Nat.lt_succ_self _) (by omega) rfl
theorem dX10_leastString_0 : decode cX10_leastString 0 = .ok (.ldc 100, 2) := by decide +kernel
theorem dX10_leastString_2 : decode cX10_leastString 2 = .ok (.istore_n 3, 1) := by decide +kernel
theorem dX10_leastString_3 : decode cX10_leastString 3 = .ok (.iload_n 2, 1) := by decide +kernel
theorem dX10_leastString_4 : decode cX10_leastString 4 = .ok (.istore 4, 2) := by decide +kernel
theorem dX10_leastString_6 : decode cX10_leastString 6 = .ok (.iload 4, 2) := by decide +kernel
theorem dX10_leastString_8 : decode cX10_leastString 8 = .ok (.iconst 1, 1) := by decide +kernel
theorem dX10_leastString_9 : decode cX10_leastString 9 = .ok (.aload_n 1, 1) := by decide +kernel
theorem dX10_leastString_10 : decode cX10_leastString 10 = .ok (.getfield 101, 3) := by decide +kernel
theorem dX10_leastString_13 : decode cX10_leastString 13 = .ok (.ishl, 1) := by decide +kernel
theorem dX10_leastString_14 : decode cX10_leastString 14 = .ok (.if_icmp .ge 34, 3) := by decide +kernel
theorem dX10_leastString_17 : decode cX10_leastString 17 = .ok (.iload_n 3, 1) := by decide +kernel
theorem dX10_leastString_18 : decode cX10_leastString 18 = .ok (.ifCond .le 30, 3) := by decide +kernel
theorem dX10_leastString_21 : decode cX10_leastString 21 = .ok (.iload 4, 2) := by decide +kernel
theorem dX10_leastString_23 : decode cX10_leastString 23 = .ok (.iload_n 2, 1) := by decide +kernel
theorem dX10_leastString_24 : decode cX10_leastString 24 = .ok (.iand, 1) := by decide +kernel
theorem dX10_leastString_25 : decode cX10_leastString 25 = .ok (.iload_n 2, 1) := by decide +kernel
theorem dX10_leastString_26 : decode cX10_leastString 26 = .ok (.if_icmp .ne 16, 3) := by decide +kernel
theorem dX10_leastString_29 : decode cX10_leastString 29 = .ok (.iload_n 3, 1) := by decide +kernel
theorem dX10_leastString_30 : decode cX10_leastString 30 = .ok (.aload_n 0, 1) := by decide +kernel
theorem dX10_leastString_31 : decode cX10_leastString 31 = .ok (.aload_n 1, 1) := by decide +kernel
theorem dX10_leastString_32 : decode cX10_leastString 32 = .ok (.iload 4, 2) := by decide +kernel
theorem dX10_leastString_34 : decode cX10_leastString 34 = .ok (.iload_n 3, 1) := by decide +kernel
theorem dX10_leastString_35 : decode cX10_leastString 35 = .ok (.invokevirtual 104, 3) := by decide +kernel
theorem dX10_leastString_38 : decode cX10_leastString 38 = .ok (.invokestatic 108, 3) := by decide +kernel
theorem dX10_leastString_41 : decode cX10_leastString 41 = .ok (.istore_n 3, 1) := by decide +kernel
theorem dX10_leastString_42 : decode cX10_leastString 42 = .ok (.iinc 4 1, 3) := by decide +kernel
theorem dX10_leastString_45 : decode cX10_leastString 45 = .ok (.goto (-39), 3) := by decide +kernel
theorem dX10_leastString_48 : decode cX10_leastString 48 = .ok (.iload_n 3, 1) := by decide +kernel
theorem dX10_leastString_49 : decode cX10_leastString 49 = .ok (.ldc 100, 2) := by decide +kernel
theorem dX10_leastString_51 : decode cX10_leastString 51 = .ok (.if_icmp .ne 7, 3) := by decide +kernel
theorem dX10_leastString_54 : decode cX10_leastString 54 = .ok (.iconst (-1), 1) := by decide +kernel
theorem dX10_leastString_55 : decode cX10_leastString 55 = .ok (.goto 8, 3) := by decide +kernel
theorem dX10_leastString_58 : decode cX10_leastString 58 = .ok (.iload_n 3, 1) := by decide +kernel
theorem dX10_leastString_59 : decode cX10_leastString 59 = .ok (.sipush 4096, 3) := by decide +kernel
theorem dX10_leastString_62 : decode cX10_leastString 62 = .ok (.irem, 1) := by decide +kernel
theorem dX10_leastString_63 : decode cX10_leastString 63 = .ok (.ireturn, 1) := by decide +kernel
theorem fl_X10_101 : Cond.fieldLink RX10 101 "HookUps$Told" (TX8 0).2.1 (TX8 0).2.2.1 ∈ hk_tb := hk_tq1 124 (by decide +kernel) (by decide +kernel)
theorem ck_X10_104 : zcV RX10 RX10 yX10_lightestTree cX10_lightestTree 10 (some .int) 104 3 := ⟨hk_tq4 172 (by decide +kernel) (by decide +kernel), hk_tq4 169 (by decide +kernel) (by decide +kernel), hk_tq1 8 (by decide +kernel) (by decide +kernel), ⟨by decide, by decide, by decide +kernel⟩, hk_tq4 171 (by decide +kernel) (by decide +kernel), hk_s 19 (by decide +kernel) (by decide +kernel)⟩
theorem ck_X10_108 : zcS RX10 yJ9_min_7cf53 cJ9_min_7cf53 2 (some .int) 108 2 := ⟨hk_tq2 189 (by decide +kernel) (by decide +kernel), hk_tq4 177 (by decide +kernel) (by decide +kernel), hk_tq1 14 (by decide +kernel) (by decide +kernel), ⟨by decide, by decide, by decide +kernel⟩, hk_tq2 188 (by decide +kernel) (by decide +kernel)⟩
set_option maxRecDepth 100000 in
set_option maxHeartbeats 4000000 in
theorem k_X10_leastString_wa (l : Launch) {D : va_G} {ar : Nat → ClassId} {B : Nat → Prop} {b n : Nat} {w0 : zcW} (A : Nat → Int) (τ : Nat → Nat → Int) (nd : Nat) (hA : ∀ i, inI (A i)) (hR : Rel9 ar b w0 A τ) (hc : cn A) (hwi : wi A) (hnd : nd < 2 ^ (A 0).toNat) (hO : ∀ i : Nat, (i : Int) < A 1 → 0 ≤ τ 28 i ∧ τ 28 i < A 1) (hK : ∀ i, i < 12 → inI (τ 27 i)) : zt_M l D ar B b w0 n yX10_leastString cX10_leastString 5 (some .int) 4 93 [.ref (b + 24), .ref (b + 1), .int (iz ((nd : Nat) : Int))] τ (some (.int (iz (wqN A (τ 27) (τ 28) (τ 29) nd)))) (sA τ 29 (wqL A (τ 27) (τ 28) (τ 29) nd (2 ^ (A 0).toNat - nd)).1) := by
  refine zc_start (own := RX10) (by decide +kernel) rfl (Nat.le_of_ble_eq_true rfl) ?_
  intro p e s m args below meth c C K hr hlk hnam
  have zi := hR.i
  unfold rlI at zi
  obtain ⟨M9, eM9⟩ : ∃ q9 : Nat, q9 = 2 ^ (A 0).toNat := ⟨_, rfl⟩
  have zM : M9 ≤ 256 := by rw [eM9]; exact Nat.pow_le_pow_right (by decide) (show (A 0).toNat ≤ 8 by omega)
  rw [← eM9] at hnd
  refine hv_ldc C (n := 1000000000) lc_X10_100 dX10_leastString_0 ?_
  refine hv_istore_n C 3 [(3, .int (iz 1000000000)), (0, .ref (b + 24)), (1, .ref (b + 1)), (2, .int (iz ((nd : Nat) : Int)))] dX10_leastString_2 rfl (by decide) rfl ?_
  refine hv_iload_n C 2 3 dX10_leastString_3 rfl rfl ?_
  refine hv_istore C 4 [(4, .int (iz ((nd : Nat) : Int))), (3, .int (iz 1000000000)), (0, .ref (b + 24)), (1, .ref (b + 1)), (2, .int (iz ((nd : Nat) : Int)))] dX10_leastString_4 (by decide) rfl ?_
  have L6 : ∀ (f : Nat) (ls9 : Int) (tw : Nat) (P7 : Nat → Int), M9 - tw < f → (nd ≤ tw ∧ tw ≤ M9) → (wqL A (τ 27) (τ 28) (τ 29) nd (tw - nd) = (P7, ls9)) → (0 ≤ ls9 ∧ ls9 ≤ 1000000000) → hvV p l e { frames := 4, cells := 0, slots := 0, locals := 93 } s m args below meth c 5 B 0 0 (MQ below (zc_Q D B (fun r' w' n' => r' = (some (.int (iz (wqN A (τ 27) (τ 28) (τ 29) nd)))) ∧ w' = cw ar b (sA τ 29 (wqL A (τ 27) (τ 28) (τ 29) nd (2 ^ (A 0).toNat - nd)).1) w0 ∧ n' = n)) args s 0 0 B) (zc_I D B (cw ar b (sA τ 29 P7) w0) n s.heap) 6 [(0, .ref (b + 24)), (1, .ref (b + 1)), (2, .int (iz ((nd : Nat) : Int))), (3, .int (iz ls9)), (4, .int (iz ((tw : Nat) : Int)))] [] := by
    intro f
    induction f with
    | zero => intro _ _ _ hm; exact absurd hm (Nat.not_lt_zero _)
    | succ f ih6 =>
      intro ls9 tw P7 hm6 htw hL hls
      refine hv_iload C 4 4 dX10_leastString_6 rfl ?_
      refine hv_iconst C dX10_leastString_8 ?_
      refine hv_aload_n C 1 1 dX10_leastString_9 rfl rfl ?_
      refine zc_get C K (v := .int (iz (τ 1 0))) 0 rfl hu_9 (by decide) (cw_at 1 rfl) rfl fl_X10_101 rfl dX10_leastString_10 ?_
      refine hv_nm (fun x1 ex1 => ?_)
      have rx1 : inI x1 := by rw [ex1]; exact (by have z := hA 0; omega)
      obtain ⟨tN, rfl⟩ : ∃ n9 : Nat, x1 = (n9 : Int) := ⟨(x1).toNat, by omega⟩
      have zp : (2 : Int) ^ tN = ((M9 : Nat) : Int) := by rw [eM9, show (A 0).toNat = tN by omega, Int.natCast_pow]; rfl
      refine hv_ishl1 C tN (by omega) (by omega) dX10_leastString_13 ?_
      refine hv_icmp_ge C 48 dX10_leastString_14 (by decide) (by omega) (by omega) (fun h14 => ?_) (fun h14 => ?_)
      · skip
        have zT := wqL_e hL (M9 - nd) (by omega) (by omega)
        refine hv_iload_n C 3 3 dX10_leastString_48 rfl rfl ?_
        refine hv_ldc C (n := 1000000000) lc_X10_100 dX10_leastString_49 ?_
        refine hv_icmp_ne C 58 dX10_leastString_51 (by decide) (by omega) (by omega) (fun h51 => ?_) (fun h51 => ?_)
        · skip
          refine hv_iload_n C 3 3 dX10_leastString_58 rfl rfl ?_
          refine hv_sipush C dX10_leastString_59 (by decide) ?_
          refine hv_irem C (by omega) (by omega) (by omega) (by omega) dX10_leastString_62 ?_
          exact zt_iret C hr hlk (by unfold wqN; rw [← eM9, zT]; first | exact if_p (by omega) rfl | exact if_n (by omega) rfl) (by rw [← eM9, zT]) dX10_leastString_63
        · skip
          refine hv_iconst C dX10_leastString_54 ?_
          refine hv_goto C 63 dX10_leastString_55 (by decide) ?_
          exact zt_iret C hr hlk (by unfold wqN; rw [← eM9, zT]; first | exact if_p (by omega) rfl | exact if_n (by omega) rfl) (by rw [← eM9, zT]) dX10_leastString_63
      · skip
        refine hv_iload_n C 3 3 dX10_leastString_17 rfl rfl ?_
        refine hv_if_le C 48 dX10_leastString_18 (by decide) (by omega) (fun h18 => ?_) (fun h18 => ?_)
        · skip
          have zT := wqL_e hL (M9 - nd) (by omega) (by omega)
          refine hv_iload_n C 3 3 dX10_leastString_48 rfl rfl ?_
          refine hv_ldc C (n := 1000000000) lc_X10_100 dX10_leastString_49 ?_
          refine hv_icmp_ne C 58 dX10_leastString_51 (by decide) (by omega) (by omega) (fun h51 => ?_) (fun h51 => ?_)
          · skip
            refine hv_iload_n C 3 3 dX10_leastString_58 rfl rfl ?_
            refine hv_sipush C dX10_leastString_59 (by decide) ?_
            refine hv_irem C (by omega) (by omega) (by omega) (by omega) dX10_leastString_62 ?_
            exact zt_iret C hr hlk (by unfold wqN; rw [← eM9, zT]; first | exact if_p (by omega) rfl | exact if_n (by omega) rfl) (by rw [← eM9, zT]) dX10_leastString_63
          · skip
            refine hv_iconst C dX10_leastString_54 ?_
            refine hv_goto C 63 dX10_leastString_55 (by decide) ?_
            exact zt_iret C hr hlk (by unfold wqN; rw [← eM9, zT]; first | exact if_p (by omega) rfl | exact if_n (by omega) rfl) (by rw [← eM9, zT]) dX10_leastString_63
        · skip
          refine hv_iload C 4 4 dX10_leastString_21 rfl ?_
          refine hv_iload_n C 2 2 dX10_leastString_23 rfl rfl ?_
          refine hv_iandn C tw nd rfl rfl dX10_leastString_24 ?_
          have na24 : (tw &&& nd) ≤ tw := Nat.and_le_left
          refine hv_iload_n C 2 2 dX10_leastString_25 rfl rfl ?_
          refine hv_icmp_ne C 42 dX10_leastString_26 (by decide) (by omega) (by omega) (fun h26 => ?_) (fun h26 => ?_)
          · skip
            refine hv_iinc C 4 4 [(4, .int (iz (((tw : Nat) : Int) + 1))), (0, .ref (b + 24)), (1, .ref (b + 1)), (2, .int (iz ((nd : Nat) : Int))), (3, .int (iz ls9))] dX10_leastString_42 rfl (by decide) rfl ?_
            refine hv_goto C 6 dX10_leastString_45 (by decide) ?_
            refine hv_loc [1, 2, 3, 4, 0] [(0, .ref (b + 24)), (1, .ref (b + 1)), (2, .int (iz ((nd : Nat) : Int))), (3, .int (iz ls9)), (4, .int (iz (((tw : Nat) : Int) + 1)))] rfl ?_
            exact ih6 ls9 (tw + 1) P7 (by omega) (by omega) (by first | exact wqL_k (by omega) hL (by omega) | (rw [wqL_s (by omega) hL (by omega) (by omega), ← zRe])) (by first | omega | (split <;> omega))
          · skip
            refine hv_iload_n C 3 3 dX10_leastString_29 rfl rfl ?_
            refine hv_aload_n C 0 0 dX10_leastString_30 rfl rfl ?_
            refine hv_aload_n C 1 1 dX10_leastString_31 rfl rfl ?_
            refine hv_iload C 4 4 dX10_leastString_32 rfl ?_
            refine hv_iload_n C 3 3 dX10_leastString_34 rfl rfl ?_
            refine zt_callV [.ref (b + 1), .int (iz ((tw : Nat) : Int)), .int (iz ls9)] [.int (iz ls9)] C K (cw_at 24 rfl) rfl (k_X10_lightestTree_wa l A (sA τ 29 P7) tw ls9 hA (by repeat (first | exact hR | refine rl_sA (by decide) ?_)) hc hwi (by omega) (by omega) hO hK) ck_X10_104 (by decide) ⟨Nat.zero_le _, Nat.zero_le _⟩ rfl (Nat.le_of_ble_eq_true rfl) dX10_leastString_35 ?_
            refine hv_as ((wqR tw (wqT A (τ 27) (τ 28) tw ls9 P7 (A 1).toNat))) rfl ?_
            refine zt_st (τ2 := sA τ 29 (wqT A (τ 27) (τ 28) tw ls9 P7 (A 1).toNat).1) (by first | rfl | (funext j9; by_cases hj29 : j9 = 29; (subst hj29; first | rfl | exact ua_ua | (funext i9; simp only [sA, ua]; (repeat' split) <;> first | rfl | (exfalso; omega) | (subst_vars; rfl))); simp only [sA, if_neg hj29])) ?_
            refine hv_nm (fun x2 ex2 => ?_)
            have rx2 : inI x2 := by rw [ex2]; exact (by have z := wqR_r (K := τ 27) hwi (by omega) hO tw ls9 P7; exact ⟨by omega, by omega⟩)
            have zR : 0 ≤ x2 ∧ x2 ≤ 1000000000 := by rw [ex2]; exact wqR_r hwi (by omega) hO _ _ _
            have zRe := ex2
            refine zt_callS [.int (iz ls9), .int (iz x2)] [] C K (k_J9_min_7cf53 l  (sA τ 29 (wqT A (τ 27) (τ 28) tw ls9 P7 (A 1).toNat).1) ls9 x2 (by omega) (by omega)) ck_X10_108 (by decide) ⟨Nat.zero_le _, Nat.zero_le _⟩ rfl (Nat.le_of_ble_eq_true rfl) dX10_leastString_38 ?_
            refine hv_as ((if x2 < ls9 then x2 else ls9)) rfl ?_
            refine hv_istore_n C 3 [(3, .int (iz (if x2 < ls9 then x2 else ls9))), (0, .ref (b + 24)), (1, .ref (b + 1)), (2, .int (iz ((nd : Nat) : Int))), (4, .int (iz ((tw : Nat) : Int)))] dX10_leastString_41 rfl (by decide) rfl ?_
            refine hv_iinc C 4 4 [(4, .int (iz (((tw : Nat) : Int) + 1))), (3, .int (iz (if x2 < ls9 then x2 else ls9))), (0, .ref (b + 24)), (1, .ref (b + 1)), (2, .int (iz ((nd : Nat) : Int)))] dX10_leastString_42 rfl (by decide) rfl ?_
            refine hv_goto C 6 dX10_leastString_45 (by decide) ?_
            refine hv_loc [2, 3, 4, 1, 0] [(0, .ref (b + 24)), (1, .ref (b + 1)), (2, .int (iz ((nd : Nat) : Int))), (3, .int (iz (if x2 < ls9 then x2 else ls9))), (4, .int (iz (((tw : Nat) : Int) + 1)))] rfl ?_
            exact ih6 (if x2 < ls9 then x2 else ls9) (tw + 1) (wqT A (τ 27) (τ 28) tw ls9 P7 (A 1).toNat).1 (by omega) (by omega) (by first | exact wqL_k (by omega) hL (by omega) | (rw [wqL_s (by omega) hL (by omega) (by omega), ← zRe])) (by first | omega | (split <;> omega))
  refine hv_loc [2, 3, 4, 1, 0] [(0, .ref (b + 24)), (1, .ref (b + 1)), (2, .int (iz ((nd : Nat) : Int))), (3, .int (iz 1000000000)), (4, .int (iz ((nd : Nat) : Int)))] rfl ?_
  refine zt_st (τ2 := sA τ 29 (τ 29)) ((sA_id τ 29).symm) ?_
  exact L6 _ 1000000000 nd (τ 29) (Nat.lt_succ_self _) (by omega) (by rw [Nat.sub_self]; rfl) (by omega)
set_option maxRecDepth 100000 in
set_option maxHeartbeats 4000000 in
theorem k_X10_lightestTree_wb (l : Launch) {D : va_G} {ar : Nat → ClassId} {B : Nat → Prop} {b n : Nat} {w0 : zcW} (A : Nat → Int) (τ : Nat → Nat → Int) (tw : Nat) (lim : Int) (hA : ∀ i, inI (A i)) (hR : Rel9 ar b w0 A τ) (hc : cn A) (hwi : wi A) (htw : tw < 256) (r_lim : inI lim) (hO : ∀ i : Nat, (i : Int) < A 1 → 0 ≤ τ 34 i ∧ τ 34 i < A 1) (hK : ∀ i, i < 12 → inI (τ 33 i)) : zt_M l D ar B b w0 n yX10_lightestTree cX10_lightestTree 10 (some .int) 3 64 [.ref (b + 30), .ref (b + 1), .int (iz ((tw : Nat) : Int)), .int (iz lim)] τ (some (.int (iz (wqR tw (wqT A (τ 33) (τ 34) tw lim (τ 35) (A 1).toNat))))) (sA τ 35 (wqT A (τ 33) (τ 34) tw lim (τ 35) (A 1).toNat).1) := by
  refine zc_start (own := RX10) (by decide +kernel) rfl (Nat.le_of_ble_eq_true rfl) ?_
  intro p e s m args below meth c C K hr hlk hnam
  have n2 := hR.l2.1
  have hlow := low_le tw htw
  refine hv_iconst C dX10_lightestTree_0 ?_
  refine hv_istore C 4 [(4, .int (iz 0)), (0, .ref (b + 30)), (1, .ref (b + 1)), (2, .int (iz ((tw : Nat) : Int))), (3, .int (iz lim))] dX10_lightestTree_1 (by decide) rfl ?_
  have L3 : ∀ (f : Nat) (t : Nat) (P9 : Nat → Int), 8 - t < f → (t ≤ 8) → (P9 = pi9 (τ 35) t) → hvV p l e { frames := 3, cells := 0, slots := 0, locals := 64 } s m args below meth c 10 B 0 0 (MQ below (zc_Q D B (fun r' w' n' => r' = (some (.int (iz (wqR tw (wqT A (τ 33) (τ 34) tw lim (τ 35) (A 1).toNat))))) ∧ w' = cw ar b (sA τ 35 (wqT A (τ 33) (τ 34) tw lim (τ 35) (A 1).toNat).1) w0 ∧ n' = n)) args s 0 0 B) (zc_I D B (cw ar b (sA τ 35 P9) w0) n s.heap) 3 [(0, .ref (b + 30)), (1, .ref (b + 1)), (2, .int (iz ((tw : Nat) : Int))), (3, .int (iz lim)), (4, .int (iz ((t : Nat) : Int)))] [] := by
    intro f
    induction f with
    | zero => intro _ _ hm; exact absurd hm (Nat.not_lt_zero _)
    | succ f ih3 =>
      intro t P9 hm3 ht hP9
      refine hv_iload C 4 4 dX10_lightestTree_3 rfl ?_
      refine hv_bipush C dX10_lightestTree_5 (by decide) ?_
      refine hv_icmp_ge C 27 dX10_lightestTree_7 (by decide) (by omega) (by omega) (fun h7 => ?_) (fun h7 => ?_)
      · skip
        refine hv_iconst C dX10_lightestTree_27 ?_
        refine hv_istore C 4 [(4, .int (iz 0)), (0, .ref (b + 30)), (1, .ref (b + 1)), (2, .int (iz ((tw : Nat) : Int))), (3, .int (iz lim))] dX10_lightestTree_28 (by decide) rfl ?_
        refine hv_iload_n C 2 3 dX10_lightestTree_30 rfl rfl ?_
        refine hv_iload_n C 2 3 dX10_lightestTree_31 rfl rfl ?_
        refine hv_ineg C dX10_lightestTree_32 ?_
        refine hv_ilow C tw rfl rfl (by omega) dX10_lightestTree_33 ?_
        refine hv_istore C 5 [(5, .int (iz ((tw &&& (4096 - tw) : Nat) : Int))), (4, .int (iz 0)), (0, .ref (b + 30)), (1, .ref (b + 1)), (2, .int (iz ((tw : Nat) : Int))), (3, .int (iz lim))] dX10_lightestTree_34 (by decide) rfl ?_
        refine hv_iconst C dX10_lightestTree_36 ?_
        refine hv_istore C 6 [(6, .int (iz 0)), (5, .int (iz ((tw &&& (4096 - tw) : Nat) : Int))), (4, .int (iz 0)), (0, .ref (b + 30)), (1, .ref (b + 1)), (2, .int (iz ((tw : Nat) : Int))), (3, .int (iz lim))] dX10_lightestTree_37 (by decide) rfl ?_
        have L39 : ∀ (f : Nat) (wt : Int) (gr : Nat) (k : Nat) (P8 : Nat → Int), (A 1).toNat - k < f → ((k : Int) ≤ A 1) → (wqT A (τ 33) (τ 34) tw lim (τ 35) k = (P8, wt, gr)) → (∀ i, i < 8 → 0 ≤ P8 i ∧ P8 i < 256) → (0 ≤ wt ∧ wt ≤ 4096000 * (k : Int)) → (gr < 256) → hvV p l e { frames := 3, cells := 0, slots := 0, locals := 64 } s m args below meth c 10 B 0 0 (MQ below (zc_Q D B (fun r' w' n' => r' = (some (.int (iz (wqR tw (wqT A (τ 33) (τ 34) tw lim (τ 35) (A 1).toNat))))) ∧ w' = cw ar b (sA τ 35 (wqT A (τ 33) (τ 34) tw lim (τ 35) (A 1).toNat).1) w0 ∧ n' = n)) args s 0 0 B) (zc_I D B (cw ar b (sA τ 35 P8) w0) n s.heap) 39 [(0, .ref (b + 30)), (1, .ref (b + 1)), (2, .int (iz ((tw : Nat) : Int))), (3, .int (iz lim)), (4, .int (iz wt)), (5, .int (iz ((gr : Nat) : Int))), (6, .int (iz ((k : Nat) : Int)))] [] := by
          intro f
          induction f with
          | zero => intro _ _ _ _ hm; exact absurd hm (Nat.not_lt_zero _)
          | succ f ih39 =>
            intro wt gr k P8 hm39 hk hT hP hwt hgr
            refine hv_iload C 6 6 dX10_lightestTree_39 rfl ?_
            refine hv_aload_n C 1 1 dX10_lightestTree_41 rfl rfl ?_
            refine zc_get C K (v := .ref (b + 2)) 1 rfl hu_9 (by decide) (cw_at 1 rfl) rfl fl_X10_86 rfl dX10_lightestTree_42 ?_
            refine zt_callV [] [.int (iz ((k : Nat) : Int))] C K (cw_at 2 rfl) rfl (k_Jx4a65c_size_8abf5 l 2 (sA τ 35 P8)  rfl) ck_X10_41 (by decide) ⟨Nat.zero_le _, Nat.zero_le _⟩ rfl (Nat.le_of_ble_eq_true rfl) dX10_lightestTree_45 ?_
            refine hv_as ((τ 2 2)) rfl ?_
            refine hv_nm (fun x1 ex1 => ?_)
            have rx1 : inI x1 := by rw [ex1]; exact (by have z := hA 1; omega)
            refine hv_icmp_ge C 197 dX10_lightestTree_48 (by decide) (by omega) (by omega) (fun h48 => ?_) (fun h48 => ?_)
            · skip
              have zT := wqT_e hT (A 1).toNat (by omega) (by omega)
              refine hv_iload C 5 5 dX10_lightestTree_197 rfl ?_
              refine hv_iload_n C 2 2 dX10_lightestTree_199 rfl rfl ?_
              refine hv_icmp_ne C 208 dX10_lightestTree_200 (by decide) (by omega) (by omega) (fun h200 => ?_) (fun h200 => ?_)
              · skip
                refine hv_ldc C (n := 1000000000) lc_X10_100 dX10_lightestTree_208 ?_
                exact zt_iret C hr hlk (by rw [zT]; first | exact (wqR_t (by omega)).symm | exact (wqR_f (by omega)).symm) (by rw [zT]) dX10_lightestTree_210
              · skip
                refine hv_iload C 4 4 dX10_lightestTree_203 rfl ?_
                refine hv_goto C 210 dX10_lightestTree_205 (by decide) ?_
                exact zt_iret C hr hlk (by rw [zT]; first | exact (wqR_t (by omega)).symm | exact (wqR_f (by omega)).symm) (by rw [zT]) dX10_lightestTree_210
            · skip
              refine hv_iload C 5 5 dX10_lightestTree_51 rfl ?_
              refine hv_iload_n C 2 2 dX10_lightestTree_53 rfl rfl ?_
              refine hv_icmp_eq C 197 dX10_lightestTree_54 (by decide) (by omega) (by omega) (fun h54 => ?_) (fun h54 => ?_)
              · skip
                have zT := wqT_e hT (A 1).toNat (by omega) (by omega)
                refine hv_iload C 5 5 dX10_lightestTree_197 rfl ?_
                refine hv_iload_n C 2 2 dX10_lightestTree_199 rfl rfl ?_
                refine hv_icmp_ne C 208 dX10_lightestTree_200 (by decide) (by omega) (by omega) (fun h200 => ?_) (fun h200 => ?_)
                · skip
                  refine hv_ldc C (n := 1000000000) lc_X10_100 dX10_lightestTree_208 ?_
                  exact zt_iret C hr hlk (by rw [zT]; first | exact (wqR_t (by omega)).symm | exact (wqR_f (by omega)).symm) (by rw [zT]) dX10_lightestTree_210
                · skip
                  refine hv_iload C 4 4 dX10_lightestTree_203 rfl ?_
                  refine hv_goto C 210 dX10_lightestTree_205 (by decide) ?_
                  exact zt_iret C hr hlk (by rw [zT]; first | exact (wqR_t (by omega)).symm | exact (wqR_f (by omega)).symm) (by rw [zT]) dX10_lightestTree_210
              · skip
                refine hv_iload C 4 4 dX10_lightestTree_57 rfl ?_
                refine hv_iload_n C 3 3 dX10_lightestTree_59 rfl rfl ?_
                refine hv_icmp_ge C 197 dX10_lightestTree_60 (by decide) (by omega) (by omega) (fun h60 => ?_) (fun h60 => ?_)
                · skip
                  have zT := wqT_e hT (A 1).toNat (by omega) (by omega)
                  refine hv_iload C 5 5 dX10_lightestTree_197 rfl ?_
                  refine hv_iload_n C 2 2 dX10_lightestTree_199 rfl rfl ?_
                  refine hv_icmp_ne C 208 dX10_lightestTree_200 (by decide) (by omega) (by omega) (fun h200 => ?_) (fun h200 => ?_)
                  · skip
                    refine hv_ldc C (n := 1000000000) lc_X10_100 dX10_lightestTree_208 ?_
                    exact zt_iret C hr hlk (by rw [zT]; first | exact (wqR_t (by omega)).symm | exact (wqR_f (by omega)).symm) (by rw [zT]) dX10_lightestTree_210
                  · skip
                    refine hv_iload C 4 4 dX10_lightestTree_203 rfl ?_
                    refine hv_goto C 210 dX10_lightestTree_205 (by decide) ?_
                    exact zt_iret C hr hlk (by rw [zT]; first | exact (wqR_t (by omega)).symm | exact (wqR_f (by omega)).symm) (by rw [zT]) dX10_lightestTree_210
                · skip
                  have zok := hO k (by omega)
                  refine hv_aload_n C 0 0 dX10_lightestTree_63 rfl rfl ?_
                  refine zc_get C K (v := .ref (b + 34)) 3 rfl hu_11 (by decide) (cw_at 30 rfl) rfl fl_X10_21 rfl dX10_lightestTree_64 ?_
                  refine hv_iload C 6 6 dX10_lightestTree_67 rfl ?_
                  refine zc_iald C K (f := (τ 34)) k (cw_at 34 rfl) (by omega) (by omega) (by decide) dX10_lightestTree_69 ?_
                  refine hv_as (τ 34 k) rfl ?_
                  refine hv_nm (fun x2 ex2 => ?_)
                  obtain ⟨oN, rfl⟩ : ∃ n9 : Nat, x2 = (n9 : Int) := ⟨(x2).toNat, by omega⟩
                  have zqo : (τ 34 k).toNat = oN := by omega
                  have zw := hwi oN (by omega)
                  have hwb := wb_lt hc hwi (w := oN) (by omega)
                  have zp2 := p2_le oN 11 (by omega)
                  refine hv_istore C 7 [(7, .int (iz ((oN : Nat) : Int))), (0, .ref (b + 30)), (1, .ref (b + 1)), (2, .int (iz ((tw : Nat) : Int))), (3, .int (iz lim)), (4, .int (iz wt)), (5, .int (iz ((gr : Nat) : Int))), (6, .int (iz ((k : Nat) : Int)))] dX10_lightestTree_70 (by decide) rfl ?_
                  refine hv_aload_n C 1 2 dX10_lightestTree_72 rfl rfl ?_
                  refine zc_get C K (v := .ref (b + 2)) 1 rfl hu_9 (by decide) (cw_at 1 rfl) rfl fl_X10_86 rfl dX10_lightestTree_73 ?_
                  refine hv_iload C 7 0 dX10_lightestTree_76 rfl ?_
                  obtain ⟨p3, i3, o3⟩ := ((by repeat (first | exact hR | refine rl_sA (by decide) ?_)) : Rel9 ar b w0 A (sA τ 35 P8)).l2.2 oN (by omega)
                  refine zt_callV [.int (iz ((oN : Nat) : Int))] [] C K (cw_at 2 rfl) rfl (k_Jx4a65c_get_915e3 l 2 p3 (sA τ 35 P8) oN rfl i3) ck_X10_54 (by decide) ⟨Nat.zero_le _, Nat.zero_le _⟩ rfl (Nat.le_of_ble_eq_true rfl) dX10_lightestTree_78 ?_
                  refine zc_cast C K (cw_ob o3) (hc := rfl) cl_X10_89 dX10_lightestTree_81 ?_
                  refine hv_astore C 8 [(8, .ref p3), (7, .int (iz ((oN : Nat) : Int))), (0, .ref (b + 30)), (1, .ref (b + 1)), (2, .int (iz ((tw : Nat) : Int))), (3, .int (iz lim)), (4, .int (iz wt)), (5, .int (iz ((gr : Nat) : Int))), (6, .int (iz ((k : Nat) : Int)))] dX10_lightestTree_84 (by decide) rfl ?_
                  refine hv_iconst C dX10_lightestTree_86 ?_
                  refine hv_aload C 8 0 dX10_lightestTree_87 rfl ?_
                  refine zc_get C K (v := .int (iz (A (30 + 4 * oN + 0)))) 0 rfl hu_10 (by decide) (cw_ob o3) rfl fl_X10_111 rfl dX10_lightestTree_89 ?_
                  refine hv_nm (fun x4 ex4 => ?_)
                  have rx4 : inI x4 := by rw [ex4]; exact (hA _)
                  obtain ⟨aN, rfl⟩ : ∃ n9 : Nat, x4 = (n9 : Int) := ⟨(x4).toNat, by omega⟩
                  have zaN : (A (30 + 4 * oN + 0)).toNat = aN := by omega
                  refine hv_ishl1 C aN (by omega) (by omega) dX10_lightestTree_92 ?_
                  refine hv_iconst C dX10_lightestTree_93 ?_
                  refine hv_aload C 8 0 dX10_lightestTree_94 rfl ?_
                  refine zc_get C K (v := .int (iz (A (30 + 4 * oN + 1)))) 1 rfl hu_10 (by decide) (cw_ob o3) rfl fl_X10_114 rfl dX10_lightestTree_96 ?_
                  refine hv_nm (fun x5 ex5 => ?_)
                  have rx5 : inI x5 := by rw [ex5]; exact (hA _)
                  obtain ⟨bN, rfl⟩ : ∃ n9 : Nat, x5 = (n9 : Int) := ⟨(x5).toNat, by omega⟩
                  have zbN : (A (30 + 4 * oN + 1)).toNat = bN := by omega
                  refine hv_ishl1 C bN (by omega) (by omega) dX10_lightestTree_99 ?_
                  refine hv_iorn C (2 ^ aN) (2 ^ bN) (by simp) (by simp) dX10_lightestTree_100 ?_
                  refine hv_as (((wb A oN : Nat) : Int)) (by unfold wb; rw [zaN, zbN]) ?_
                  refine hv_istore C 9 [(9, .int (iz ((wb A oN : Nat) : Int))), (8, .ref p3), (7, .int (iz ((oN : Nat) : Int))), (0, .ref (b + 30)), (1, .ref (b + 1)), (2, .int (iz ((tw : Nat) : Int))), (3, .int (iz lim)), (4, .int (iz wt)), (5, .int (iz ((gr : Nat) : Int))), (6, .int (iz ((k : Nat) : Int)))] dX10_lightestTree_101 (by decide) rfl ?_
                  refine hv_iload C 9 0 dX10_lightestTree_103 rfl ?_
                  refine hv_iload_n C 2 5 dX10_lightestTree_105 rfl rfl ?_
                  refine hv_iandn C (wb A oN) tw rfl rfl dX10_lightestTree_106 ?_
                  have na106 : ((wb A oN) &&& tw) ≤ (wb A oN) := Nat.and_le_left
                  refine hv_iload C 9 0 dX10_lightestTree_107 rfl ?_
                  refine hv_icmp_ne C 191 dX10_lightestTree_109 (by decide) (by omega) (by omega) (fun h109 => ?_) (fun h109 => ?_)
                  · skip
                    refine hv_iinc C 6 9 [(6, .int (iz (((k : Nat) : Int) + 1))), (9, .int (iz ((wb A oN : Nat) : Int))), (8, .ref p3), (7, .int (iz ((oN : Nat) : Int))), (0, .ref (b + 30)), (1, .ref (b + 1)), (2, .int (iz ((tw : Nat) : Int))), (3, .int (iz lim)), (4, .int (iz wt)), (5, .int (iz ((gr : Nat) : Int)))] dX10_lightestTree_191 rfl (by decide) rfl ?_
                    refine hv_goto C 39 dX10_lightestTree_194 (by decide) ?_
                    refine hv_loc [4, 5, 6, 7, 8, 9, 0] [(0, .ref (b + 30)), (1, .ref (b + 1)), (2, .int (iz ((tw : Nat) : Int))), (3, .int (iz lim)), (4, .int (iz wt)), (5, .int (iz ((gr : Nat) : Int))), (6, .int (iz (((k : Nat) : Int) + 1)))] rfl ?_
                    exact ih39 wt gr (k + 1) P8 (by omega) (by omega) (by first | exact (wqT_n hT (by omega) (by omega) zqo (fun z9 => by have z8 := z9.1.1; have z7 := z9.1.2; have z6 := z9.2; rw [zaN] at z7; first | omega | (rw [zpN] at z7; omega))) | exact (by rw [wqT_y hT (by omega) (by omega) zqo ⟨⟨by omega, by rw [zaN, zpN]; omega⟩, by omega⟩, zaN, zbN, zpN, zpb]; simp only [Prod.mk.injEq, true_and, and_true]; omega)) (by first | exact hP | exact jp9_r zor hP 8) (by omega) (by first | omega | exact zor)
                  · skip
                    refine hv_aload_n C 0 3 dX10_lightestTree_112 rfl rfl ?_
                    refine zc_get C K (v := .ref (b + 35)) 4 rfl hu_11 (by decide) (cw_at 30 rfl) rfl fl_X10_24 rfl dX10_lightestTree_113 ?_
                    refine hv_aload C 8 1 dX10_lightestTree_116 rfl ?_
                    refine zc_get C K (v := .int (iz (A (30 + 4 * oN + 0)))) 0 rfl hu_10 (by decide) (cw_ob o3) rfl fl_X10_111 rfl dX10_lightestTree_118 ?_
                    refine hv_nm (fun x6 ex6 => ?_)
                    have rx6 : inI x6 := by rw [ex6]; exact (hA _)
                    refine hv_as (((aN : Nat) : Int)) (by omega) ?_
                    refine zc_iald C K (f := P8) aN (cw_at 35 rfl) (by omega) (by omega) (by decide) dX10_lightestTree_121 ?_
                    refine hv_nm (fun x7 ex7 => ?_)
                    have zpr := hP aN (by omega)
                    obtain ⟨pN, rfl⟩ : ∃ n9 : Nat, x7 = (n9 : Int) := ⟨(x7).toNat, by omega⟩
                    have zpN : (P8 aN).toNat = pN := by omega
                    refine hv_iload C 9 0 dX10_lightestTree_122 rfl ?_
                    refine hv_iandn C pN (wb A oN) rfl rfl dX10_lightestTree_124 ?_
                    have na124 : (pN &&& (wb A oN)) ≤ pN := Nat.and_le_left
                    refine hv_iload C 9 0 dX10_lightestTree_125 rfl ?_
                    refine hv_icmp_eq C 191 dX10_lightestTree_127 (by decide) (by omega) (by omega) (fun h127 => ?_) (fun h127 => ?_)
                    · skip
                      refine hv_iinc C 6 9 [(6, .int (iz (((k : Nat) : Int) + 1))), (9, .int (iz ((wb A oN : Nat) : Int))), (8, .ref p3), (7, .int (iz ((oN : Nat) : Int))), (0, .ref (b + 30)), (1, .ref (b + 1)), (2, .int (iz ((tw : Nat) : Int))), (3, .int (iz lim)), (4, .int (iz wt)), (5, .int (iz ((gr : Nat) : Int)))] dX10_lightestTree_191 rfl (by decide) rfl ?_
                      refine hv_goto C 39 dX10_lightestTree_194 (by decide) ?_
                      refine hv_loc [4, 5, 6, 7, 8, 9, 0] [(0, .ref (b + 30)), (1, .ref (b + 1)), (2, .int (iz ((tw : Nat) : Int))), (3, .int (iz lim)), (4, .int (iz wt)), (5, .int (iz ((gr : Nat) : Int))), (6, .int (iz (((k : Nat) : Int) + 1)))] rfl ?_
                      exact ih39 wt gr (k + 1) P8 (by omega) (by omega) (by first | exact (wqT_n hT (by omega) (by omega) zqo (fun z9 => by have z8 := z9.1.1; have z7 := z9.1.2; have z6 := z9.2; rw [zaN] at z7; first | omega | (rw [zpN] at z7; omega))) | exact (by rw [wqT_y hT (by omega) (by omega) zqo ⟨⟨by omega, by rw [zaN, zpN]; omega⟩, by omega⟩, zaN, zbN, zpN, zpb]; simp only [Prod.mk.injEq, true_and, and_true]; omega)) (by first | exact hP | exact jp9_r zor hP 8) (by omega) (by first | omega | exact zor)
                    · skip
                      refine hv_aload_n C 0 3 dX10_lightestTree_130 rfl rfl ?_
                      refine zc_get C K (v := .ref (b + 33)) 2 rfl hu_11 (by decide) (cw_at 30 rfl) rfl fl_X10_18 rfl dX10_lightestTree_131 ?_
                      refine hv_iload C 7 2 dX10_lightestTree_134 rfl ?_
                      refine zc_iald C K (f := (τ 33)) oN (cw_at 33 rfl) (by omega) (by omega) (by decide) dX10_lightestTree_136 ?_
                      refine hv_as (τ 33 oN) rfl ?_
                      refine hv_nm (fun x8 ex8 => ?_)
                      have rx8 : inI x8 := by rw [ex8]; exact hK oN (by omega)
                      refine hv_aload C 8 1 dX10_lightestTree_137 rfl ?_
                      refine zc_get C K (v := .int (iz (A (30 + 4 * oN + 3)))) 3 rfl hu_10 (by decide) (cw_ob o3) rfl fl_X10_117 rfl dX10_lightestTree_139 ?_
                      refine hv_nm (fun x9 ex9 => ?_)
                      have rx9 : inI x9 := by rw [ex9]; exact (hA _)
                      refine hv_icmp_ge C 191 dX10_lightestTree_142 (by decide) (by omega) (by omega) (fun h142 => ?_) (fun h142 => ?_)
                      · skip
                        refine hv_iinc C 6 9 [(6, .int (iz (((k : Nat) : Int) + 1))), (9, .int (iz ((wb A oN : Nat) : Int))), (8, .ref p3), (7, .int (iz ((oN : Nat) : Int))), (0, .ref (b + 30)), (1, .ref (b + 1)), (2, .int (iz ((tw : Nat) : Int))), (3, .int (iz lim)), (4, .int (iz wt)), (5, .int (iz ((gr : Nat) : Int)))] dX10_lightestTree_191 rfl (by decide) rfl ?_
                        refine hv_goto C 39 dX10_lightestTree_194 (by decide) ?_
                        refine hv_loc [4, 5, 6, 7, 8, 9, 0] [(0, .ref (b + 30)), (1, .ref (b + 1)), (2, .int (iz ((tw : Nat) : Int))), (3, .int (iz lim)), (4, .int (iz wt)), (5, .int (iz ((gr : Nat) : Int))), (6, .int (iz (((k : Nat) : Int) + 1)))] rfl ?_
                        exact ih39 wt gr (k + 1) P8 (by omega) (by omega) (by first | exact (wqT_n hT (by omega) (by omega) zqo (fun z9 => by have z8 := z9.1.1; have z7 := z9.1.2; have z6 := z9.2; rw [zaN] at z7; first | omega | (rw [zpN] at z7; omega))) | exact (by rw [wqT_y hT (by omega) (by omega) zqo ⟨⟨by omega, by rw [zaN, zpN]; omega⟩, by omega⟩, zaN, zbN, zpN, zpb]; simp only [Prod.mk.injEq, true_and, and_true]; omega)) (by first | exact hP | exact jp9_r zor hP 8) (by omega) (by first | omega | exact zor)
                      · skip
                        refine hv_iload C 4 7 dX10_lightestTree_145 rfl ?_
                        refine hv_aload C 8 1 dX10_lightestTree_147 rfl ?_
                        refine zc_get C K (v := .int (iz (A (30 + 4 * oN + 2)))) 2 rfl hu_10 (by decide) (cw_ob o3) rfl fl_X10_91 rfl dX10_lightestTree_149 ?_
                        refine hv_nm (fun x10 ex10 => ?_)
                        have rx10 : inI x10 := by rw [ex10]; exact (hA _)
                        refine hv_sipush C dX10_lightestTree_152 (by decide) ?_
                        refine hv_imul C dX10_lightestTree_155 ?_
                        refine hv_iconst C dX10_lightestTree_156 ?_
                        refine hv_iload C 7 2 dX10_lightestTree_157 rfl ?_
                        refine hv_ishl1 C oN (by omega) (by omega) dX10_lightestTree_159 ?_
                        refine hv_iadd C dX10_lightestTree_160 ?_
                        refine hv_iadd C dX10_lightestTree_161 ?_
                        refine hv_istore C 4 [(4, .int (iz (wt + ((x10 * 4096) + ((2 : Int) ^ oN))))), (9, .int (iz ((wb A oN : Nat) : Int))), (8, .ref p3), (7, .int (iz ((oN : Nat) : Int))), (0, .ref (b + 30)), (1, .ref (b + 1)), (2, .int (iz ((tw : Nat) : Int))), (3, .int (iz lim)), (5, .int (iz ((gr : Nat) : Int))), (6, .int (iz ((k : Nat) : Int)))] dX10_lightestTree_162 (by decide) rfl ?_
                        refine hv_aload_n C 0 4 dX10_lightestTree_164 rfl rfl ?_
                        refine hv_aload_n C 0 4 dX10_lightestTree_165 rfl rfl ?_
                        refine zc_get C K (v := .ref (b + 35)) 4 rfl hu_11 (by decide) (cw_at 30 rfl) rfl fl_X10_24 rfl dX10_lightestTree_166 ?_
                        refine hv_aload C 8 2 dX10_lightestTree_169 rfl ?_
                        refine zc_get C K (v := .int (iz (A (30 + 4 * oN + 0)))) 0 rfl hu_10 (by decide) (cw_ob o3) rfl fl_X10_111 rfl dX10_lightestTree_171 ?_
                        refine hv_nm (fun x11 ex11 => ?_)
                        have rx11 : inI x11 := by rw [ex11]; exact (hA _)
                        refine hv_as (((aN : Nat) : Int)) (by omega) ?_
                        refine zc_iald C K (f := P8) aN (cw_at 35 rfl) (by omega) (by omega) (by decide) dX10_lightestTree_174 ?_
                        refine hv_nm (fun x12 ex12 => ?_)
                        refine hv_as (((pN : Nat) : Int)) (by omega) ?_
                        refine hv_aload_n C 0 4 dX10_lightestTree_175 rfl rfl ?_
                        refine zc_get C K (v := .ref (b + 35)) 4 rfl hu_11 (by decide) (cw_at 30 rfl) rfl fl_X10_24 rfl dX10_lightestTree_176 ?_
                        refine hv_aload C 8 2 dX10_lightestTree_179 rfl ?_
                        refine zc_get C K (v := .int (iz (A (30 + 4 * oN + 1)))) 1 rfl hu_10 (by decide) (cw_ob o3) rfl fl_X10_114 rfl dX10_lightestTree_181 ?_
                        refine hv_nm (fun x13 ex13 => ?_)
                        have rx13 : inI x13 := by rw [ex13]; exact (hA _)
                        refine hv_as (((bN : Nat) : Int)) (by omega) ?_
                        refine zc_iald C K (f := P8) bN (cw_at 35 rfl) (by omega) (by omega) (by decide) dX10_lightestTree_184 ?_
                        refine hv_nm (fun x14 ex14 => ?_)
                        have zpr2 := hP bN (by omega)
                        obtain ⟨pb, rfl⟩ : ∃ n9 : Nat, x14 = (n9 : Int) := ⟨(x14).toNat, by omega⟩
                        have zpb : (P8 bN).toNat = pb := by omega
                        have zor : pN ||| pb < 256 := Nat.or_lt_two_pow (n := 8) (by omega) (by omega)
                        refine hv_iorn C pN pb rfl rfl dX10_lightestTree_185 ?_
                        refine zt_callV [.int (iz ((pN ||| pb : Nat) : Int))] [] C K (cw_at 30 rfl) rfl (k_X10_joinParts_wb l  (sA τ 35 P8) (pN ||| pb) zor) ck_X10_120 (by decide) ⟨Nat.zero_le _, Nat.zero_le _⟩ rfl (Nat.le_of_ble_eq_true rfl) dX10_lightestTree_186 ?_
                        refine hv_as (((pN ||| pb : Nat) : Int)) rfl ?_
                        refine zt_st (τ2 := sA τ 35 (jp9 P8 (pN ||| pb) 8)) (by first | rfl | (funext j9; by_cases hj35 : j9 = 35; (subst hj35; first | rfl | exact ua_ua | (funext i9; simp only [sA, ua]; (repeat' split) <;> first | rfl | (exfalso; omega) | (subst_vars; rfl))); simp only [sA, if_neg hj35])) ?_
                        refine hv_istore C 5 [(5, .int (iz ((pN ||| pb : Nat) : Int))), (4, .int (iz (wt + ((x10 * 4096) + ((2 : Int) ^ oN))))), (9, .int (iz ((wb A oN : Nat) : Int))), (8, .ref p3), (7, .int (iz ((oN : Nat) : Int))), (0, .ref (b + 30)), (1, .ref (b + 1)), (2, .int (iz ((tw : Nat) : Int))), (3, .int (iz lim)), (6, .int (iz ((k : Nat) : Int)))] dX10_lightestTree_189 (by decide) rfl ?_
                        refine hv_iinc C 6 9 [(6, .int (iz (((k : Nat) : Int) + 1))), (5, .int (iz ((pN ||| pb : Nat) : Int))), (4, .int (iz (wt + ((x10 * 4096) + ((2 : Int) ^ oN))))), (9, .int (iz ((wb A oN : Nat) : Int))), (8, .ref p3), (7, .int (iz ((oN : Nat) : Int))), (0, .ref (b + 30)), (1, .ref (b + 1)), (2, .int (iz ((tw : Nat) : Int))), (3, .int (iz lim))] dX10_lightestTree_191 rfl (by decide) rfl ?_
                        refine hv_goto C 39 dX10_lightestTree_194 (by decide) ?_
                        refine hv_loc [6, 7, 8, 9, 2, 1, 0] [(0, .ref (b + 30)), (1, .ref (b + 1)), (2, .int (iz ((tw : Nat) : Int))), (3, .int (iz lim)), (4, .int (iz (wt + ((x10 * 4096) + ((2 : Int) ^ oN))))), (5, .int (iz ((pN ||| pb : Nat) : Int))), (6, .int (iz (((k : Nat) : Int) + 1)))] rfl ?_
                        exact ih39 (wt + ((x10 * 4096) + ((2 : Int) ^ oN))) (pN ||| pb) (k + 1) (jp9 P8 (pN ||| pb) 8) (by omega) (by omega) (by first | exact (wqT_n hT (by omega) (by omega) zqo (fun z9 => by have z8 := z9.1.1; have z7 := z9.1.2; have z6 := z9.2; rw [zaN] at z7; first | omega | (rw [zpN] at z7; omega))) | exact (by rw [wqT_y hT (by omega) (by omega) zqo ⟨⟨by omega, by rw [zaN, zpN]; omega⟩, by omega⟩, zaN, zbN, zpN, zpb]; simp only [Prod.mk.injEq, true_and, and_true]; omega)) (by first | exact hP | exact jp9_r zor hP 8) (by omega) (by first | omega | exact zor)
        refine hv_loc [3, 4, 5, 6, 2, 1, 0] [(0, .ref (b + 30)), (1, .ref (b + 1)), (2, .int (iz ((tw : Nat) : Int))), (3, .int (iz lim)), (4, .int (iz 0)), (5, .int (iz ((tw &&& (4096 - tw) : Nat) : Int))), (6, .int (iz 0))] rfl ?_
        exact L39 _ 0 (tw &&& (4096 - tw)) 0 P9 (Nat.lt_succ_self _) (by omega) (by rw [hP9, show t = 8 by omega]; rfl) (by rw [hP9, show t = 8 by omega]; exact pi9_r _) (by omega) (by omega)
      · skip
        refine hv_aload_n C 0 0 dX10_lightestTree_10 rfl rfl ?_
        refine zc_get C K (v := .ref (b + 35)) 4 rfl hu_11 (by decide) (cw_at 30 rfl) rfl fl_X10_24 rfl dX10_lightestTree_11 ?_
        refine hv_iload C 4 4 dX10_lightestTree_14 rfl ?_
        refine hv_iconst C dX10_lightestTree_16 ?_
        refine hv_iload C 4 4 dX10_lightestTree_17 rfl ?_
        refine hv_ishl1 C t (by omega) (by omega) dX10_lightestTree_19 ?_
        refine zc_iast C K (f := P9) t (cw_at 35 rfl) (cw_set 35 t ((2 : Int) ^ t) rfl) (by omega) (by omega) (by decide) dX10_lightestTree_20 ?_
        refine zt_st (τ2 := sA τ 35 (ua P9 t ((2 : Int) ^ t))) (by rw [u2_sA, sA_sA]; first | done | rfl) ?_
        refine hv_iinc C 4 4 [(4, .int (iz (((t : Nat) : Int) + 1))), (0, .ref (b + 30)), (1, .ref (b + 1)), (2, .int (iz ((tw : Nat) : Int))), (3, .int (iz lim))] dX10_lightestTree_21 rfl (by decide) rfl ?_
        refine hv_goto C 3 dX10_lightestTree_24 (by decide) ?_
        refine hv_loc [1, 2, 3, 4, 0] [(0, .ref (b + 30)), (1, .ref (b + 1)), (2, .int (iz ((tw : Nat) : Int))), (3, .int (iz lim)), (4, .int (iz (((t : Nat) : Int) + 1)))] rfl ?_
        exact ih3 (t + 1) (ua P9 t ((2 : Int) ^ t)) (by omega) (by omega) (by rw [hP9]; rfl)
  refine hv_loc [1, 2, 3, 4, 0] [(0, .ref (b + 30)), (1, .ref (b + 1)), (2, .int (iz ((tw : Nat) : Int))), (3, .int (iz lim)), (4, .int (iz 0))] rfl ?_
  refine zt_st (τ2 := sA τ 35 (τ 35)) ((sA_id τ 35).symm) ?_
  exact L3 _ 0 (τ 35) (Nat.lt_succ_self _) (by omega) rfl
set_option maxRecDepth 100000 in
set_option maxHeartbeats 4000000 in
theorem k_X10_leastString_wb (l : Launch) {D : va_G} {ar : Nat → ClassId} {B : Nat → Prop} {b n : Nat} {w0 : zcW} (A : Nat → Int) (τ : Nat → Nat → Int) (nd : Nat) (hA : ∀ i, inI (A i)) (hR : Rel9 ar b w0 A τ) (hc : cn A) (hwi : wi A) (hnd : nd < 2 ^ (A 0).toNat) (hO : ∀ i : Nat, (i : Int) < A 1 → 0 ≤ τ 34 i ∧ τ 34 i < A 1) (hK : ∀ i, i < 12 → inI (τ 33 i)) : zt_M l D ar B b w0 n yX10_leastString cX10_leastString 5 (some .int) 4 93 [.ref (b + 30), .ref (b + 1), .int (iz ((nd : Nat) : Int))] τ (some (.int (iz (wqN A (τ 33) (τ 34) (τ 35) nd)))) (sA τ 35 (wqL A (τ 33) (τ 34) (τ 35) nd (2 ^ (A 0).toNat - nd)).1) := by
  refine zc_start (own := RX10) (by decide +kernel) rfl (Nat.le_of_ble_eq_true rfl) ?_
  intro p e s m args below meth c C K hr hlk hnam
  have zi := hR.i
  unfold rlI at zi
  obtain ⟨M9, eM9⟩ : ∃ q9 : Nat, q9 = 2 ^ (A 0).toNat := ⟨_, rfl⟩
  have zM : M9 ≤ 256 := by rw [eM9]; exact Nat.pow_le_pow_right (by decide) (show (A 0).toNat ≤ 8 by omega)
  rw [← eM9] at hnd
  refine hv_ldc C (n := 1000000000) lc_X10_100 dX10_leastString_0 ?_
  refine hv_istore_n C 3 [(3, .int (iz 1000000000)), (0, .ref (b + 30)), (1, .ref (b + 1)), (2, .int (iz ((nd : Nat) : Int)))] dX10_leastString_2 rfl (by decide) rfl ?_
  refine hv_iload_n C 2 3 dX10_leastString_3 rfl rfl ?_
  refine hv_istore C 4 [(4, .int (iz ((nd : Nat) : Int))), (3, .int (iz 1000000000)), (0, .ref (b + 30)), (1, .ref (b + 1)), (2, .int (iz ((nd : Nat) : Int)))] dX10_leastString_4 (by decide) rfl ?_
  have L6 : ∀ (f : Nat) (ls9 : Int) (tw : Nat) (P7 : Nat → Int), M9 - tw < f → (nd ≤ tw ∧ tw ≤ M9) → (wqL A (τ 33) (τ 34) (τ 35) nd (tw - nd) = (P7, ls9)) → (0 ≤ ls9 ∧ ls9 ≤ 1000000000) → hvV p l e { frames := 4, cells := 0, slots := 0, locals := 93 } s m args below meth c 5 B 0 0 (MQ below (zc_Q D B (fun r' w' n' => r' = (some (.int (iz (wqN A (τ 33) (τ 34) (τ 35) nd)))) ∧ w' = cw ar b (sA τ 35 (wqL A (τ 33) (τ 34) (τ 35) nd (2 ^ (A 0).toNat - nd)).1) w0 ∧ n' = n)) args s 0 0 B) (zc_I D B (cw ar b (sA τ 35 P7) w0) n s.heap) 6 [(0, .ref (b + 30)), (1, .ref (b + 1)), (2, .int (iz ((nd : Nat) : Int))), (3, .int (iz ls9)), (4, .int (iz ((tw : Nat) : Int)))] [] := by
    intro f
    induction f with
    | zero => intro _ _ _ hm; exact absurd hm (Nat.not_lt_zero _)
    | succ f ih6 =>
      intro ls9 tw P7 hm6 htw hL hls
      refine hv_iload C 4 4 dX10_leastString_6 rfl ?_
      refine hv_iconst C dX10_leastString_8 ?_
      refine hv_aload_n C 1 1 dX10_leastString_9 rfl rfl ?_
      refine zc_get C K (v := .int (iz (τ 1 0))) 0 rfl hu_9 (by decide) (cw_at 1 rfl) rfl fl_X10_101 rfl dX10_leastString_10 ?_
      refine hv_nm (fun x1 ex1 => ?_)
      have rx1 : inI x1 := by rw [ex1]; exact (by have z := hA 0; omega)
      obtain ⟨tN, rfl⟩ : ∃ n9 : Nat, x1 = (n9 : Int) := ⟨(x1).toNat, by omega⟩
      have zp : (2 : Int) ^ tN = ((M9 : Nat) : Int) := by rw [eM9, show (A 0).toNat = tN by omega, Int.natCast_pow]; rfl
      refine hv_ishl1 C tN (by omega) (by omega) dX10_leastString_13 ?_
      refine hv_icmp_ge C 48 dX10_leastString_14 (by decide) (by omega) (by omega) (fun h14 => ?_) (fun h14 => ?_)
      · skip
        have zT := wqL_e hL (M9 - nd) (by omega) (by omega)
        refine hv_iload_n C 3 3 dX10_leastString_48 rfl rfl ?_
        refine hv_ldc C (n := 1000000000) lc_X10_100 dX10_leastString_49 ?_
        refine hv_icmp_ne C 58 dX10_leastString_51 (by decide) (by omega) (by omega) (fun h51 => ?_) (fun h51 => ?_)
        · skip
          refine hv_iload_n C 3 3 dX10_leastString_58 rfl rfl ?_
          refine hv_sipush C dX10_leastString_59 (by decide) ?_
          refine hv_irem C (by omega) (by omega) (by omega) (by omega) dX10_leastString_62 ?_
          exact zt_iret C hr hlk (by unfold wqN; rw [← eM9, zT]; first | exact if_p (by omega) rfl | exact if_n (by omega) rfl) (by rw [← eM9, zT]) dX10_leastString_63
        · skip
          refine hv_iconst C dX10_leastString_54 ?_
          refine hv_goto C 63 dX10_leastString_55 (by decide) ?_
          exact zt_iret C hr hlk (by unfold wqN; rw [← eM9, zT]; first | exact if_p (by omega) rfl | exact if_n (by omega) rfl) (by rw [← eM9, zT]) dX10_leastString_63
      · skip
        refine hv_iload_n C 3 3 dX10_leastString_17 rfl rfl ?_
        refine hv_if_le C 48 dX10_leastString_18 (by decide) (by omega) (fun h18 => ?_) (fun h18 => ?_)
        · skip
          have zT := wqL_e hL (M9 - nd) (by omega) (by omega)
          refine hv_iload_n C 3 3 dX10_leastString_48 rfl rfl ?_
          refine hv_ldc C (n := 1000000000) lc_X10_100 dX10_leastString_49 ?_
          refine hv_icmp_ne C 58 dX10_leastString_51 (by decide) (by omega) (by omega) (fun h51 => ?_) (fun h51 => ?_)
          · skip
            refine hv_iload_n C 3 3 dX10_leastString_58 rfl rfl ?_
            refine hv_sipush C dX10_leastString_59 (by decide) ?_
            refine hv_irem C (by omega) (by omega) (by omega) (by omega) dX10_leastString_62 ?_
            exact zt_iret C hr hlk (by unfold wqN; rw [← eM9, zT]; first | exact if_p (by omega) rfl | exact if_n (by omega) rfl) (by rw [← eM9, zT]) dX10_leastString_63
          · skip
            refine hv_iconst C dX10_leastString_54 ?_
            refine hv_goto C 63 dX10_leastString_55 (by decide) ?_
            exact zt_iret C hr hlk (by unfold wqN; rw [← eM9, zT]; first | exact if_p (by omega) rfl | exact if_n (by omega) rfl) (by rw [← eM9, zT]) dX10_leastString_63
        · skip
          refine hv_iload C 4 4 dX10_leastString_21 rfl ?_
          refine hv_iload_n C 2 2 dX10_leastString_23 rfl rfl ?_
          refine hv_iandn C tw nd rfl rfl dX10_leastString_24 ?_
          have na24 : (tw &&& nd) ≤ tw := Nat.and_le_left
          refine hv_iload_n C 2 2 dX10_leastString_25 rfl rfl ?_
          refine hv_icmp_ne C 42 dX10_leastString_26 (by decide) (by omega) (by omega) (fun h26 => ?_) (fun h26 => ?_)
          · skip
            refine hv_iinc C 4 4 [(4, .int (iz (((tw : Nat) : Int) + 1))), (0, .ref (b + 30)), (1, .ref (b + 1)), (2, .int (iz ((nd : Nat) : Int))), (3, .int (iz ls9))] dX10_leastString_42 rfl (by decide) rfl ?_
            refine hv_goto C 6 dX10_leastString_45 (by decide) ?_
            refine hv_loc [1, 2, 3, 4, 0] [(0, .ref (b + 30)), (1, .ref (b + 1)), (2, .int (iz ((nd : Nat) : Int))), (3, .int (iz ls9)), (4, .int (iz (((tw : Nat) : Int) + 1)))] rfl ?_
            exact ih6 ls9 (tw + 1) P7 (by omega) (by omega) (by first | exact wqL_k (by omega) hL (by omega) | (rw [wqL_s (by omega) hL (by omega) (by omega), ← zRe])) (by first | omega | (split <;> omega))
          · skip
            refine hv_iload_n C 3 3 dX10_leastString_29 rfl rfl ?_
            refine hv_aload_n C 0 0 dX10_leastString_30 rfl rfl ?_
            refine hv_aload_n C 1 1 dX10_leastString_31 rfl rfl ?_
            refine hv_iload C 4 4 dX10_leastString_32 rfl ?_
            refine hv_iload_n C 3 3 dX10_leastString_34 rfl rfl ?_
            refine zt_callV [.ref (b + 1), .int (iz ((tw : Nat) : Int)), .int (iz ls9)] [.int (iz ls9)] C K (cw_at 30 rfl) rfl (k_X10_lightestTree_wb l A (sA τ 35 P7) tw ls9 hA (by repeat (first | exact hR | refine rl_sA (by decide) ?_)) hc hwi (by omega) (by omega) hO hK) ck_X10_104 (by decide) ⟨Nat.zero_le _, Nat.zero_le _⟩ rfl (Nat.le_of_ble_eq_true rfl) dX10_leastString_35 ?_
            refine hv_as ((wqR tw (wqT A (τ 33) (τ 34) tw ls9 P7 (A 1).toNat))) rfl ?_
            refine zt_st (τ2 := sA τ 35 (wqT A (τ 33) (τ 34) tw ls9 P7 (A 1).toNat).1) (by first | rfl | (funext j9; by_cases hj35 : j9 = 35; (subst hj35; first | rfl | exact ua_ua | (funext i9; simp only [sA, ua]; (repeat' split) <;> first | rfl | (exfalso; omega) | (subst_vars; rfl))); simp only [sA, if_neg hj35])) ?_
            refine hv_nm (fun x2 ex2 => ?_)
            have rx2 : inI x2 := by rw [ex2]; exact (by have z := wqR_r (K := τ 33) hwi (by omega) hO tw ls9 P7; exact ⟨by omega, by omega⟩)
            have zR : 0 ≤ x2 ∧ x2 ≤ 1000000000 := by rw [ex2]; exact wqR_r hwi (by omega) hO _ _ _
            have zRe := ex2
            refine zt_callS [.int (iz ls9), .int (iz x2)] [] C K (k_J9_min_7cf53 l  (sA τ 35 (wqT A (τ 33) (τ 34) tw ls9 P7 (A 1).toNat).1) ls9 x2 (by omega) (by omega)) ck_X10_108 (by decide) ⟨Nat.zero_le _, Nat.zero_le _⟩ rfl (Nat.le_of_ble_eq_true rfl) dX10_leastString_38 ?_
            refine hv_as ((if x2 < ls9 then x2 else ls9)) rfl ?_
            refine hv_istore_n C 3 [(3, .int (iz (if x2 < ls9 then x2 else ls9))), (0, .ref (b + 30)), (1, .ref (b + 1)), (2, .int (iz ((nd : Nat) : Int))), (4, .int (iz ((tw : Nat) : Int)))] dX10_leastString_41 rfl (by decide) rfl ?_
            refine hv_iinc C 4 4 [(4, .int (iz (((tw : Nat) : Int) + 1))), (3, .int (iz (if x2 < ls9 then x2 else ls9))), (0, .ref (b + 30)), (1, .ref (b + 1)), (2, .int (iz ((nd : Nat) : Int)))] dX10_leastString_42 rfl (by decide) rfl ?_
            refine hv_goto C 6 dX10_leastString_45 (by decide) ?_
            refine hv_loc [2, 3, 4, 1, 0] [(0, .ref (b + 30)), (1, .ref (b + 1)), (2, .int (iz ((nd : Nat) : Int))), (3, .int (iz (if x2 < ls9 then x2 else ls9))), (4, .int (iz (((tw : Nat) : Int) + 1)))] rfl ?_
            exact ih6 (if x2 < ls9 then x2 else ls9) (tw + 1) (wqT A (τ 33) (τ 34) tw ls9 P7 (A 1).toNat).1 (by omega) (by omega) (by first | exact wqL_k (by omega) hL (by omega) | (rw [wqL_s (by omega) hL (by omega) (by omega), ← zRe])) (by first | omega | (split <;> omega))
  refine hv_loc [2, 3, 4, 1, 0] [(0, .ref (b + 30)), (1, .ref (b + 1)), (2, .int (iz ((nd : Nat) : Int))), (3, .int (iz 1000000000)), (4, .int (iz ((nd : Nat) : Int)))] rfl ?_
  refine zt_st (τ2 := sA τ 35 (τ 35)) ((sA_id τ 35).symm) ?_
  exact L6 _ 1000000000 nd (τ 35) (Nat.lt_succ_self _) (by omega) (by rw [Nat.sub_self]; rfl) (by omega)
