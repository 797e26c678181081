/-! lengths: each set's miles -/
theorem mi_a (L : Nat → Int) (n : Nat) (v : Int) {i : Nat} (h : i < n) : ∀ s, mi L n v s i = L i
  | 0 => rfl
  | s + 1 => by unfold mi; rw [ua_ne _ _ (by omega)]; exact mi_a L n v h s
theorem mi_c (L : Nat → Int) (n : Nat) (v : Int) {i : Nat} : ∀ s, n + s ≤ i → mi L n v s i = L i
  | 0, _ => rfl
  | s + 1, h => by unfold mi; rw [ua_ne _ _ (by omega)]; exact mi_c L n v s (by omega)
theorem mi_b (L : Nat → Int) (n : Nat) (v : Int) {j : Nat} : ∀ s, s ≤ n → j < s → mi L n v s (n + j) = L j + v
  | 0, _, h => absurd h (Nat.not_lt_zero _)
  | s + 1, hn, h => by
    unfold mi
    by_cases e : j = s
    · subst e
      rw [ua_at, mi_a L n v (by omega)]
    · rw [ua_ne _ _ (by omega)]
      exact mi_b L n v s (by omega) (by omega)
theorem ml_add (A : Nat → Int) (W j : Nat) : ∀ w : Nat, w ≤ W → ml A (((2 ^ W + j : Nat)) : Int) w = ml A (j : Int) w
  | 0, _ => rfl
  | w + 1, h => by
    have e : (((2 ^ W + j : Nat)) : Int) / 2 ^ w % 2 ^ 1 = (j : Int) / 2 ^ w % 2 ^ 1 := by
      have e1 : (2 ^ W + j) / 2 ^ w = 2 ^ (W - w) + j / 2 ^ w := by
        have : 2 ^ W = 2 ^ w * 2 ^ (W - w) := by rw [← Nat.pow_add]; congr 1; omega
        rw [this, Nat.mul_add_div (Nat.pow_pos (by decide))]
      have e2 : (2 ^ (W - w) : Nat) = 2 * 2 ^ (W - w - 1) := by rw [← Nat.pow_succ']; congr 1; omega
      have e3 : (2 ^ W + j) / 2 ^ w % 2 ^ 1 = j / 2 ^ w % 2 ^ 1 := by rw [e1, e2]; omega
      have := congrArg (fun n : Nat => (n : Int)) e3
      simpa using this
    unfold ml
    rw [e, ml_add A W j w (by omega)]
theorem ms_ml {A L : Nat → Int} (h0 : L 0 = 0) : ∀ (w i : Nat), i < 2 ^ w → ms A L w i = ml A (i : Int) w
  | 0, i, h => by
    have : i = 0 := by simpa using h
    subst this
    exact h0
  | w + 1, i, h => by
    rw [Nat.pow_succ] at h
    unfold ms ml
    by_cases q : i < 2 ^ w
    · have e : ((i : Nat) : Int) / 2 ^ w = 0 := by
        have e1 : i / 2 ^ w = 0 := Nat.div_eq_of_lt q
        have := congrArg (fun n : Nat => (n : Int)) e1
        simpa using this
      rw [mi_a _ _ _ q, e, if_neg (by decide), ms_ml h0 w i q]
      omega
    · obtain ⟨j, rfl⟩ : ∃ j, i = 2 ^ w + j := ⟨i - 2 ^ w, by omega⟩
      have hj : j < 2 ^ w := by omega
      have e : (((2 ^ w + j : Nat)) : Int) / 2 ^ w % 2 ^ 1 = 1 := by
        have e1 : (2 ^ w + j) / 2 ^ w = 1 := by
          rw [Nat.add_div_left _ (Nat.pow_pos (by decide)), Nat.div_eq_of_lt hj]
        have := congrArg (fun n : Nat => (n : Int)) (show (2 ^ w + j) / 2 ^ w % 2 ^ 1 = 1 by rw [e1])
        simpa using this
      rw [mi_b _ _ _ _ (Nat.le_refl _) hj, if_pos e, ml_add A w j w (Nat.le_refl _), ms_ml h0 w j hj]
theorem ms_c (A L : Nat → Int) {i : Nat} : ∀ w, 2 ^ w ≤ i → ms A L w i = L i
  | 0, _ => rfl
  | w + 1, h => by
    rw [Nat.pow_succ] at h
    unfold ms
    rw [mi_c _ _ _ _ (by omega)]
    exact ms_c A L w (by omega)
theorem ml_rng {A : Nat → Int} (hc : cn A) (hw : wi A) (x : Int) : ∀ w : Nat, (w : Int) ≤ A 1 → 0 ≤ ml A x w ∧ ml A x w ≤ 999 * w
  | 0, _ => by simp [ml]
  | w + 1, h => by
    have a := ml_rng hc hw x w (by omega)
    have b := (hw w (by omega)).2.2.1
    unfold ml
    split <;> omega
theorem ms_in {A L : Nat → Int} (hc : cn A) (hw : wi A) (hL : ∀ i, inI (L i)) (h0 : L 0 = 0) : (∀ i, inI (ms A L (A 1).toNat i)) ∧ ms A L (A 1).toNat 0 = 0 := by
  refine ⟨?_, ?_⟩
  · intro i
    by_cases q : i < 2 ^ (A 1).toNat
    · rw [ms_ml h0 _ i q]
      have a := ml_rng hc hw (i : Int) (A 1).toNat (by omega)
      exact ⟨by omega, by omega⟩
    · rw [ms_c A L _ (by omega)]
      exact hL i
  · rw [ms_ml h0 _ 0 (Nat.pow_pos (by decide))]
    have z : ∀ w, ml A ((0 : Nat) : Int) w = 0 := by
      intro w
      induction w with
      | zero => rfl
      | succ w ih =>
        unfold ml
        rw [ih, if_neg (by simp)]
        rfl
    exact z _
def sgr (A L K S : Nat → Int) (d t u : Int) : (Nat → Int) × (Nat → Int) := sg A (ms A L (A 1).toNat) (zt K 12) (mz S 24) d t (nh9 A u)
theorem sgr_in {A : Nat → Int} (hc : cn A) {L K S : Nat → Int} (d t u : Int) (hK : ∀ i, inI (K i)) (hS : ∀ i, inI (S i)) : (∀ i, inI ((sgr A L K S d t u).1 i)) ∧ (∀ i, inI ((sgr A L K S d t u).2 i)) := by
  have h := sg_in hc (L := ms A L (A 1).toNat) (K0 := zt K 12) (S0 := mz S 24) d t (mz_in hS 24) (zt_in hK 12) (fun i q => by rw [zt_0 _ 12 i q]; omega) (nh9 A u) (nh9_le hc u)
  exact ⟨h.1, h.2.1⟩
theorem sgr_24 {A : Nat → Int} (hc : cn A) {L K S : Nat → Int} (d t u : Int) (i : Nat) (q : i < 24) : -1 ≤ (sgr A L K S d t u).1 i ∧ (sgr A L K S d t u).1 i ≤ 4095 := sg_24 hc d t (fun q9 w9 => mz_1 _ 24 q9 w9) _ i q
def ah9 (E S : Nat → Int) : Nat → (Nat → Int)
  | 0 => E
  | h + 1 => ua (ah9 E S h) h (if S h < 0 then 0 else S h)
theorem ah9_at (E S : Nat → Int) {i : Nat} : ∀ h, i < h → ah9 E S h i = if S i < 0 then 0 else S i
  | 0, q => absurd q (Nat.not_lt_zero _)
  | h + 1, q => by
    unfold ah9
    by_cases e : i = h
    · subst e; rw [ua_at]
    · rw [ua_ne _ _ e]; exact ah9_at E S h (by omega)
theorem ah9_in {E S : Nat → Int} (hE : ∀ i, inI (E i)) (hS : ∀ i, inI (S i)) : ∀ h i, inI (ah9 E S h i)
  | 0, i => hE i
  | h + 1, i => in_ua (ah9_in hE hS h) (by have := hS h; split <;> omega) i
/-- plugs: had a string's wire its plug ahead, has it one now -/
abbrev pgw (E : Nat → Int) (k : Nat) : Prop := E (k / 12) / 2 ^ (k % 12) % 2 ^ 1 = 1
abbrev pgn (S : Nat → Int) (k : Nat) : Prop := 0 < S (k / 12) ∧ S (k / 12) / 2 ^ (k % 12) % 2 ^ 1 = 1
def pgu (E S : Nat → Int) : Nat → Int
  | 0 => 0
  | k + 1 => pgu E S k + (if pgw E k ∧ ¬ pgn S k then 1 else 0)
def pgf (E S : Nat → Int) : Nat → Int
  | 0 => 0
  | k + 1 => pgf E S k + (if ¬ pgw E k ∧ pgn S k then 1 else 0)
def pgY (E S Y : Nat → Int) : Nat → (Nat → Int)
  | 0 => Y
  | k + 1 => if pgw E k ∧ pgn S k then ua (pgY E S Y k) (k % 12) (pgY E S Y k (k % 12) + 1) else pgY E S Y k
def pgW (E S W : Nat → Int) : Nat → (Nat → Int)
  | 0 => W
  | k + 1 => if ¬ (pgw E k ↔ pgn S k) ∧ pgu E S k + pgf E S k < 7 then ua (pgW E S W k) (pgu E S k + pgf E S k).toNat ((k % 12 : Nat) : Int) else pgW E S W k
def pgB (E S B : Nat → Int) : Nat → (Nat → Int)
  | 0 => B
  | k + 1 => if ¬ (pgw E k ↔ pgn S k) ∧ pgu E S k + pgf E S k < 7 then ua (pgB E S B k) (pgu E S k + pgf E S k).toNat (if pgn S k then 1 else 0) else pgB E S B k
theorem pgu_r (E S : Nat → Int) : ∀ k : Nat, 0 ≤ pgu E S k ∧ 0 ≤ pgf E S k ∧ pgu E S k + pgf E S k ≤ k
  | 0 => by simp [pgu, pgf]
  | k + 1 => by
    have a := pgu_r E S k
    unfold pgu pgf
    split
    · rw [if_neg (fun z => absurd z.2 (by assumption : _ ∧ _).2)]; omega
    · split <;> omega
theorem s5678 (σ : Nat → Nat → Int) (a b c e X Y Z : Nat → Int) : sA (sA (sA (sA (sA (sA (sA σ 5 a) 6 b) 7 c) 8 e) 5 X) 6 Y) 7 Z = sA (sA (sA (sA σ 5 X) 6 Y) 7 Z) 8 e := by
  funext x
  simp only [sA]
  (repeat' split) <;> first | rfl | omega
theorem s8_5 (σ : Nat → Nat → Int) (e X Y Z : Nat → Int) : sA (sA (sA (sA σ 8 e) 5 X) 6 Y) 7 Z = sA (sA (sA (sA σ 5 X) 6 Y) 7 Z) 8 e := by
  funext x
  simp only [sA]
  (repeat' split) <;> first | rfl | omega
def pgP (d t : Int) : Int := 48 * d + t - 1
def pgA (σ : Nat → Nat → Int) (d t : Int) : (Nat → Int) × (Nat → Int) := sgr (σ 1) (σ 7) (σ 6) (σ 5) (pgP d t / 48) (pgP d t % 48) 23
def pgL (σ : Nat → Nat → Int) (d t : Int) : Nat → Int := if 0 ≤ pgP d t then ms (σ 1) (σ 7) (σ 1 1).toNat else σ 7
def pgE (σ : Nat → Nat → Int) (d t : Int) : Nat → Int := if 0 ≤ pgP d t then ah9 (zt (σ 8) 24) (pgA σ d t).1 24 else zt (σ 8) 24
def pgQ (σ : Nat → Nat → Int) (d t : Int) : (Nat → Int) × (Nat → Int) := if 0 ≤ pgP d t then pgA σ d t else (σ 5, σ 6)
def pgS (σ : Nat → Nat → Int) (d t : Int) : (Nat → Int) × (Nat → Int) := sgr (σ 1) (pgL σ d t) (pgQ σ d t).2 (pgQ σ d t).1 d t 23

theorem dX12_plugs_0 : decode cX12_plugs 0 = .ok (.iconst 0, 1) := by decide +kernel
theorem dX12_plugs_1 : decode cX12_plugs 1 = .ok (.istore_n 3, 1) := by decide +kernel
theorem dX12_plugs_2 : decode cX12_plugs 2 = .ok (.iload_n 3, 1) := by decide +kernel
theorem dX12_plugs_3 : decode cX12_plugs 3 = .ok (.bipush 24, 2) := by decide +kernel
theorem dX12_plugs_5 : decode cX12_plugs 5 = .ok (.if_icmp .ge 16, 3) := by decide +kernel
theorem dX12_plugs_8 : decode cX12_plugs 8 = .ok (.aload_n 0, 1) := by decide +kernel
theorem dX12_plugs_9 : decode cX12_plugs 9 = .ok (.getfield 32, 3) := by decide +kernel
theorem dX12_plugs_12 : decode cX12_plugs 12 = .ok (.iload_n 3, 1) := by decide +kernel
theorem dX12_plugs_13 : decode cX12_plugs 13 = .ok (.iconst 0, 1) := by decide +kernel
theorem dX12_plugs_14 : decode cX12_plugs 14 = .ok (.iastore, 1) := by decide +kernel
theorem dX12_plugs_15 : decode cX12_plugs 15 = .ok (.iinc 3 1, 3) := by decide +kernel
theorem dX12_plugs_18 : decode cX12_plugs 18 = .ok (.goto (-16), 3) := by decide +kernel
theorem dX12_plugs_21 : decode cX12_plugs 21 = .ok (.bipush 48, 2) := by decide +kernel
theorem dX12_plugs_23 : decode cX12_plugs 23 = .ok (.iload_n 1, 1) := by decide +kernel
theorem dX12_plugs_24 : decode cX12_plugs 24 = .ok (.imul, 1) := by decide +kernel
theorem dX12_plugs_25 : decode cX12_plugs 25 = .ok (.iload_n 2, 1) := by decide +kernel
theorem dX12_plugs_26 : decode cX12_plugs 26 = .ok (.iadd, 1) := by decide +kernel
theorem dX12_plugs_27 : decode cX12_plugs 27 = .ok (.iconst 1, 1) := by decide +kernel
theorem dX12_plugs_28 : decode cX12_plugs 28 = .ok (.isub, 1) := by decide +kernel
theorem dX12_plugs_29 : decode cX12_plugs 29 = .ok (.istore_n 3, 1) := by decide +kernel
theorem dX12_plugs_30 : decode cX12_plugs 30 = .ok (.iload_n 3, 1) := by decide +kernel
theorem dX12_plugs_31 : decode cX12_plugs 31 = .ok (.ifCond .lt 61, 3) := by decide +kernel
theorem dX12_plugs_34 : decode cX12_plugs 34 = .ok (.aload_n 0, 1) := by decide +kernel
theorem dX12_plugs_35 : decode cX12_plugs 35 = .ok (.iload_n 3, 1) := by decide +kernel
theorem dX12_plugs_36 : decode cX12_plugs 36 = .ok (.bipush 48, 2) := by decide +kernel
theorem dX12_plugs_38 : decode cX12_plugs 38 = .ok (.idiv, 1) := by decide +kernel
theorem dX12_plugs_39 : decode cX12_plugs 39 = .ok (.iload_n 3, 1) := by decide +kernel
theorem dX12_plugs_40 : decode cX12_plugs 40 = .ok (.bipush 48, 2) := by decide +kernel
theorem dX12_plugs_42 : decode cX12_plugs 42 = .ok (.irem, 1) := by decide +kernel
theorem dX12_plugs_43 : decode cX12_plugs 43 = .ok (.bipush 23, 2) := by decide +kernel
theorem dX12_plugs_45 : decode cX12_plugs 45 = .ok (.invokevirtual 249, 3) := by decide +kernel
theorem dX12_plugs_48 : decode cX12_plugs 48 = .ok (.iconst 0, 1) := by decide +kernel
theorem dX12_plugs_49 : decode cX12_plugs 49 = .ok (.istore 4, 2) := by decide +kernel
theorem dX12_plugs_51 : decode cX12_plugs 51 = .ok (.iload 4, 2) := by decide +kernel
theorem dX12_plugs_53 : decode cX12_plugs 53 = .ok (.bipush 24, 2) := by decide +kernel
theorem dX12_plugs_55 : decode cX12_plugs 55 = .ok (.if_icmp .ge 37, 3) := by decide +kernel
theorem dX12_plugs_58 : decode cX12_plugs 58 = .ok (.aload_n 0, 1) := by decide +kernel
theorem dX12_plugs_59 : decode cX12_plugs 59 = .ok (.getfield 32, 3) := by decide +kernel
theorem dX12_plugs_62 : decode cX12_plugs 62 = .ok (.iload 4, 2) := by decide +kernel
theorem dX12_plugs_64 : decode cX12_plugs 64 = .ok (.aload_n 0, 1) := by decide +kernel
theorem dX12_plugs_65 : decode cX12_plugs 65 = .ok (.getfield 23, 3) := by decide +kernel
theorem dX12_plugs_68 : decode cX12_plugs 68 = .ok (.iload 4, 2) := by decide +kernel
theorem dX12_plugs_70 : decode cX12_plugs 70 = .ok (.iaload, 1) := by decide +kernel
theorem dX12_plugs_71 : decode cX12_plugs 71 = .ok (.ifCond .ge 7, 3) := by decide +kernel
theorem dX12_plugs_74 : decode cX12_plugs 74 = .ok (.iconst 0, 1) := by decide +kernel
theorem dX12_plugs_75 : decode cX12_plugs 75 = .ok (.goto 10, 3) := by decide +kernel
theorem dX12_plugs_78 : decode cX12_plugs 78 = .ok (.aload_n 0, 1) := by decide +kernel
theorem dX12_plugs_79 : decode cX12_plugs 79 = .ok (.getfield 23, 3) := by decide +kernel
theorem dX12_plugs_82 : decode cX12_plugs 82 = .ok (.iload 4, 2) := by decide +kernel
theorem dX12_plugs_84 : decode cX12_plugs 84 = .ok (.iaload, 1) := by decide +kernel
theorem dX12_plugs_85 : decode cX12_plugs 85 = .ok (.iastore, 1) := by decide +kernel
theorem dX12_plugs_86 : decode cX12_plugs 86 = .ok (.iinc 4 1, 3) := by decide +kernel
theorem dX12_plugs_89 : decode cX12_plugs 89 = .ok (.goto (-38), 3) := by decide +kernel
theorem dX12_plugs_92 : decode cX12_plugs 92 = .ok (.aload_n 0, 1) := by decide +kernel
theorem dX12_plugs_93 : decode cX12_plugs 93 = .ok (.iload_n 1, 1) := by decide +kernel
theorem dX12_plugs_94 : decode cX12_plugs 94 = .ok (.iload_n 2, 1) := by decide +kernel
theorem dX12_plugs_95 : decode cX12_plugs 95 = .ok (.bipush 23, 2) := by decide +kernel
theorem dX12_plugs_97 : decode cX12_plugs 97 = .ok (.invokevirtual 249, 3) := by decide +kernel
theorem dX12_plugs_100 : decode cX12_plugs 100 = .ok (.aload_n 0, 1) := by decide +kernel
theorem dX12_plugs_101 : decode cX12_plugs 101 = .ok (.iconst 0, 1) := by decide +kernel
theorem dX12_plugs_102 : decode cX12_plugs 102 = .ok (.putfield 259, 3) := by decide +kernel
theorem dX12_plugs_105 : decode cX12_plugs 105 = .ok (.aload_n 0, 1) := by decide +kernel
theorem dX12_plugs_106 : decode cX12_plugs 106 = .ok (.iconst 0, 1) := by decide +kernel
theorem dX12_plugs_107 : decode cX12_plugs 107 = .ok (.putfield 262, 3) := by decide +kernel
theorem dX12_plugs_110 : decode cX12_plugs 110 = .ok (.iconst 0, 1) := by decide +kernel
theorem dX12_plugs_111 : decode cX12_plugs 111 = .ok (.istore 4, 2) := by decide +kernel
theorem dX12_plugs_113 : decode cX12_plugs 113 = .ok (.iload 4, 2) := by decide +kernel
theorem dX12_plugs_115 : decode cX12_plugs 115 = .ok (.bipush 12, 2) := by decide +kernel
theorem dX12_plugs_117 : decode cX12_plugs 117 = .ok (.if_icmp .ge 17, 3) := by decide +kernel
theorem dX12_plugs_120 : decode cX12_plugs 120 = .ok (.aload_n 0, 1) := by decide +kernel
theorem dX12_plugs_121 : decode cX12_plugs 121 = .ok (.getfield 50, 3) := by decide +kernel
theorem dX12_plugs_124 : decode cX12_plugs 124 = .ok (.iload 4, 2) := by decide +kernel
theorem dX12_plugs_126 : decode cX12_plugs 126 = .ok (.iconst 0, 1) := by decide +kernel
theorem dX12_plugs_127 : decode cX12_plugs 127 = .ok (.iastore, 1) := by decide +kernel
theorem dX12_plugs_128 : decode cX12_plugs 128 = .ok (.iinc 4 1, 3) := by decide +kernel
theorem dX12_plugs_131 : decode cX12_plugs 131 = .ok (.goto (-18), 3) := by decide +kernel
theorem dX12_plugs_134 : decode cX12_plugs 134 = .ok (.iconst 0, 1) := by decide +kernel
theorem dX12_plugs_135 : decode cX12_plugs 135 = .ok (.istore 4, 2) := by decide +kernel
theorem dX12_plugs_137 : decode cX12_plugs 137 = .ok (.iload 4, 2) := by decide +kernel
theorem dX12_plugs_139 : decode cX12_plugs 139 = .ok (.sipush 288, 3) := by decide +kernel
theorem dX12_plugs_142 : decode cX12_plugs 142 = .ok (.if_icmp .ge 196, 3) := by decide +kernel
theorem dX12_plugs_145 : decode cX12_plugs 145 = .ok (.iload 4, 2) := by decide +kernel
theorem dX12_plugs_147 : decode cX12_plugs 147 = .ok (.bipush 12, 2) := by decide +kernel
theorem dX12_plugs_149 : decode cX12_plugs 149 = .ok (.irem, 1) := by decide +kernel
theorem dX12_plugs_150 : decode cX12_plugs 150 = .ok (.istore 5, 2) := by decide +kernel
theorem dX12_plugs_152 : decode cX12_plugs 152 = .ok (.aload_n 0, 1) := by decide +kernel
theorem dX12_plugs_153 : decode cX12_plugs 153 = .ok (.getfield 32, 3) := by decide +kernel
theorem dX12_plugs_156 : decode cX12_plugs 156 = .ok (.iload 4, 2) := by decide +kernel
theorem dX12_plugs_158 : decode cX12_plugs 158 = .ok (.bipush 12, 2) := by decide +kernel
theorem dX12_plugs_160 : decode cX12_plugs 160 = .ok (.idiv, 1) := by decide +kernel
theorem dX12_plugs_161 : decode cX12_plugs 161 = .ok (.iaload, 1) := by decide +kernel
theorem dX12_plugs_162 : decode cX12_plugs 162 = .ok (.iload 5, 2) := by decide +kernel
theorem dX12_plugs_164 : decode cX12_plugs 164 = .ok (.ishr, 1) := by decide +kernel
theorem dX12_plugs_165 : decode cX12_plugs 165 = .ok (.iconst 1, 1) := by decide +kernel
theorem dX12_plugs_166 : decode cX12_plugs 166 = .ok (.iand, 1) := by decide +kernel
theorem dX12_plugs_167 : decode cX12_plugs 167 = .ok (.iconst 1, 1) := by decide +kernel
theorem dX12_plugs_168 : decode cX12_plugs 168 = .ok (.if_icmp .ne 7, 3) := by decide +kernel
theorem dX12_plugs_171 : decode cX12_plugs 171 = .ok (.iconst 1, 1) := by decide +kernel
theorem dX12_plugs_172 : decode cX12_plugs 172 = .ok (.goto 4, 3) := by decide +kernel
theorem dX12_plugs_175 : decode cX12_plugs 175 = .ok (.iconst 0, 1) := by decide +kernel
theorem dX12_plugs_176 : decode cX12_plugs 176 = .ok (.istore 6, 2) := by decide +kernel
theorem dX12_plugs_178 : decode cX12_plugs 178 = .ok (.aload_n 0, 1) := by decide +kernel
theorem dX12_plugs_179 : decode cX12_plugs 179 = .ok (.getfield 23, 3) := by decide +kernel
theorem dX12_plugs_182 : decode cX12_plugs 182 = .ok (.iload 4, 2) := by decide +kernel
theorem dX12_plugs_184 : decode cX12_plugs 184 = .ok (.bipush 12, 2) := by decide +kernel
theorem dX12_plugs_186 : decode cX12_plugs 186 = .ok (.idiv, 1) := by decide +kernel
theorem dX12_plugs_187 : decode cX12_plugs 187 = .ok (.iaload, 1) := by decide +kernel
theorem dX12_plugs_188 : decode cX12_plugs 188 = .ok (.ifCond .le 26, 3) := by decide +kernel
theorem dX12_plugs_191 : decode cX12_plugs 191 = .ok (.aload_n 0, 1) := by decide +kernel
theorem dX12_plugs_192 : decode cX12_plugs 192 = .ok (.getfield 23, 3) := by decide +kernel
theorem dX12_plugs_195 : decode cX12_plugs 195 = .ok (.iload 4, 2) := by decide +kernel
theorem dX12_plugs_197 : decode cX12_plugs 197 = .ok (.bipush 12, 2) := by decide +kernel
theorem dX12_plugs_199 : decode cX12_plugs 199 = .ok (.idiv, 1) := by decide +kernel
theorem dX12_plugs_200 : decode cX12_plugs 200 = .ok (.iaload, 1) := by decide +kernel
theorem dX12_plugs_201 : decode cX12_plugs 201 = .ok (.iload 5, 2) := by decide +kernel
theorem dX12_plugs_203 : decode cX12_plugs 203 = .ok (.ishr, 1) := by decide +kernel
theorem dX12_plugs_204 : decode cX12_plugs 204 = .ok (.iconst 1, 1) := by decide +kernel
theorem dX12_plugs_205 : decode cX12_plugs 205 = .ok (.iand, 1) := by decide +kernel
theorem dX12_plugs_206 : decode cX12_plugs 206 = .ok (.iconst 1, 1) := by decide +kernel
theorem dX12_plugs_207 : decode cX12_plugs 207 = .ok (.if_icmp .ne 7, 3) := by decide +kernel
theorem dX12_plugs_210 : decode cX12_plugs 210 = .ok (.iconst 1, 1) := by decide +kernel
theorem dX12_plugs_211 : decode cX12_plugs 211 = .ok (.goto 4, 3) := by decide +kernel
theorem dX12_plugs_214 : decode cX12_plugs 214 = .ok (.iconst 0, 1) := by decide +kernel
theorem dX12_plugs_215 : decode cX12_plugs 215 = .ok (.istore 7, 2) := by decide +kernel
theorem dX12_plugs_217 : decode cX12_plugs 217 = .ok (.iload 6, 2) := by decide +kernel
theorem dX12_plugs_219 : decode cX12_plugs 219 = .ok (.ifCond .eq 19, 3) := by decide +kernel
theorem dX12_plugs_222 : decode cX12_plugs 222 = .ok (.iload 7, 2) := by decide +kernel
theorem dX12_plugs_224 : decode cX12_plugs 224 = .ok (.ifCond .eq 14, 3) := by decide +kernel
theorem dX12_plugs_227 : decode cX12_plugs 227 = .ok (.aload_n 0, 1) := by decide +kernel
theorem dX12_plugs_228 : decode cX12_plugs 228 = .ok (.getfield 50, 3) := by decide +kernel
theorem dX12_plugs_231 : decode cX12_plugs 231 = .ok (.iload 5, 2) := by decide +kernel
theorem dX12_plugs_233 : decode cX12_plugs 233 = .ok (.dup2, 1) := by decide +kernel
theorem dX12_plugs_234 : decode cX12_plugs 234 = .ok (.iaload, 1) := by decide +kernel
theorem dX12_plugs_235 : decode cX12_plugs 235 = .ok (.iconst 1, 1) := by decide +kernel
theorem dX12_plugs_236 : decode cX12_plugs 236 = .ok (.iadd, 1) := by decide +kernel
theorem dX12_plugs_237 : decode cX12_plugs 237 = .ok (.iastore, 1) := by decide +kernel
theorem dX12_plugs_238 : decode cX12_plugs 238 = .ok (.iload 6, 2) := by decide +kernel
theorem dX12_plugs_240 : decode cX12_plugs 240 = .ok (.iload 7, 2) := by decide +kernel
theorem dX12_plugs_242 : decode cX12_plugs 242 = .ok (.if_icmp .ne 6, 3) := by decide +kernel
theorem dX12_plugs_245 : decode cX12_plugs 245 = .ok (.goto 87, 3) := by decide +kernel
theorem dX12_plugs_248 : decode cX12_plugs 248 = .ok (.aload_n 0, 1) := by decide +kernel
theorem dX12_plugs_249 : decode cX12_plugs 249 = .ok (.getfield 259, 3) := by decide +kernel
theorem dX12_plugs_252 : decode cX12_plugs 252 = .ok (.aload_n 0, 1) := by decide +kernel
theorem dX12_plugs_253 : decode cX12_plugs 253 = .ok (.getfield 262, 3) := by decide +kernel
theorem dX12_plugs_256 : decode cX12_plugs 256 = .ok (.iadd, 1) := by decide +kernel
theorem dX12_plugs_257 : decode cX12_plugs 257 = .ok (.bipush 7, 2) := by decide +kernel
theorem dX12_plugs_259 : decode cX12_plugs 259 = .ok (.if_icmp .ge 35, 3) := by decide +kernel
theorem dX12_plugs_262 : decode cX12_plugs 262 = .ok (.aload_n 0, 1) := by decide +kernel
theorem dX12_plugs_263 : decode cX12_plugs 263 = .ok (.getfield 35, 3) := by decide +kernel
theorem dX12_plugs_266 : decode cX12_plugs 266 = .ok (.aload_n 0, 1) := by decide +kernel
theorem dX12_plugs_267 : decode cX12_plugs 267 = .ok (.getfield 259, 3) := by decide +kernel
theorem dX12_plugs_270 : decode cX12_plugs 270 = .ok (.aload_n 0, 1) := by decide +kernel
theorem dX12_plugs_271 : decode cX12_plugs 271 = .ok (.getfield 262, 3) := by decide +kernel
theorem dX12_plugs_274 : decode cX12_plugs 274 = .ok (.iadd, 1) := by decide +kernel
theorem dX12_plugs_275 : decode cX12_plugs 275 = .ok (.iload 5, 2) := by decide +kernel
theorem dX12_plugs_277 : decode cX12_plugs 277 = .ok (.iastore, 1) := by decide +kernel
theorem dX12_plugs_278 : decode cX12_plugs 278 = .ok (.aload_n 0, 1) := by decide +kernel
theorem dX12_plugs_279 : decode cX12_plugs 279 = .ok (.getfield 38, 3) := by decide +kernel
theorem dX12_plugs_282 : decode cX12_plugs 282 = .ok (.aload_n 0, 1) := by decide +kernel
theorem dX12_plugs_283 : decode cX12_plugs 283 = .ok (.getfield 259, 3) := by decide +kernel
theorem dX12_plugs_286 : decode cX12_plugs 286 = .ok (.aload_n 0, 1) := by decide +kernel
theorem dX12_plugs_287 : decode cX12_plugs 287 = .ok (.getfield 262, 3) := by decide +kernel
theorem dX12_plugs_290 : decode cX12_plugs 290 = .ok (.iadd, 1) := by decide +kernel
theorem dX12_plugs_291 : decode cX12_plugs 291 = .ok (.iload 7, 2) := by decide +kernel
theorem dX12_plugs_293 : decode cX12_plugs 293 = .ok (.bastore, 1) := by decide +kernel
theorem dX12_plugs_294 : decode cX12_plugs 294 = .ok (.aload_n 0, 1) := by decide +kernel
theorem dX12_plugs_295 : decode cX12_plugs 295 = .ok (.dup, 1) := by decide +kernel
theorem dX12_plugs_296 : decode cX12_plugs 296 = .ok (.getfield 259, 3) := by decide +kernel
theorem dX12_plugs_299 : decode cX12_plugs 299 = .ok (.iload 6, 2) := by decide +kernel
theorem dX12_plugs_301 : decode cX12_plugs 301 = .ok (.ifCond .eq 7, 3) := by decide +kernel
theorem dX12_plugs_304 : decode cX12_plugs 304 = .ok (.iconst 1, 1) := by decide +kernel
theorem dX12_plugs_305 : decode cX12_plugs 305 = .ok (.goto 4, 3) := by decide +kernel
theorem dX12_plugs_308 : decode cX12_plugs 308 = .ok (.iconst 0, 1) := by decide +kernel
theorem dX12_plugs_309 : decode cX12_plugs 309 = .ok (.iadd, 1) := by decide +kernel
theorem dX12_plugs_310 : decode cX12_plugs 310 = .ok (.putfield 259, 3) := by decide +kernel
theorem dX12_plugs_313 : decode cX12_plugs 313 = .ok (.aload_n 0, 1) := by decide +kernel
theorem dX12_plugs_314 : decode cX12_plugs 314 = .ok (.dup, 1) := by decide +kernel
theorem dX12_plugs_315 : decode cX12_plugs 315 = .ok (.getfield 262, 3) := by decide +kernel
theorem dX12_plugs_318 : decode cX12_plugs 318 = .ok (.iload 7, 2) := by decide +kernel
theorem dX12_plugs_320 : decode cX12_plugs 320 = .ok (.ifCond .eq 7, 3) := by decide +kernel
theorem dX12_plugs_323 : decode cX12_plugs 323 = .ok (.iconst 1, 1) := by decide +kernel
theorem dX12_plugs_324 : decode cX12_plugs 324 = .ok (.goto 4, 3) := by decide +kernel
theorem dX12_plugs_327 : decode cX12_plugs 327 = .ok (.iconst 0, 1) := by decide +kernel
theorem dX12_plugs_328 : decode cX12_plugs 328 = .ok (.iadd, 1) := by decide +kernel
theorem dX12_plugs_329 : decode cX12_plugs 329 = .ok (.putfield 262, 3) := by decide +kernel
theorem dX12_plugs_332 : decode cX12_plugs 332 = .ok (.iinc 4 1, 3) := by decide +kernel
theorem dX12_plugs_335 : decode cX12_plugs 335 = .ok (.goto (-198), 3) := by decide +kernel
theorem dX12_plugs_338 : decode cX12_plugs 338 = .ok (.return_, 1) := by decide +kernel
set_option maxRecDepth 100000 in
set_option maxHeartbeats 4000000 in
theorem k_plugs (l : Launch) {D : va_G} {cI cZ : ClassId} {a0 : Nat} (σ : Nat → Nat → Int) (d : Int) (t : Int) (hσ : rg σ) (hc : cn (σ 1)) (hs : si (σ 1)) (hh : hi (σ 1)) (hl : li (σ 1)) (hwi : wi (σ 1)) (h70 : σ 7 0 = 0) (hd : 0 ≤ d ∧ d ≤ 199) (ht : 0 ≤ t ∧ t ≤ 47) : moM l D cI cZ a0 yX12_plugs cX12_plugs 8 none 10 254 [.ref a0, .int (iz d), .int (iz t)] σ none (sA (sA (sA (sA (sA (sA (sA (sA σ 0 (ua (ua (σ 0) 17 (pgu (pgE σ d t) (pgS σ d t).1 288)) 18 (pgf (pgE σ d t) (pgS σ d t).1 288))) 5 (pgS σ d t).1) 6 (pgS σ d t).2) 7 (ms (σ 1) (pgL σ d t) (σ 1 1).toNat)) 8 (pgE σ d t)) 9 (pgW (pgE σ d t) (pgS σ d t).1 (σ 9) 288)) 10 (pgB (pgE σ d t) (pgS σ d t).1 (σ 10) 288)) 14 (pgY (pgE σ d t) (pgS σ d t).1 (zt (σ 14) 12) 288)) := by
  refine mo_start (by decide) rfl (Nat.le_of_ble_eq_true rfl) ?_
  intro p e s m args below meth c C K hr hlk
  refine hv_iconst C dX12_plugs_0 ?_
  refine hv_istore_n C 3 [(3, .int (iz 0)), (0, .ref a0), (1, .int (iz d)), (2, .int (iz t))] dX12_plugs_1 rfl (by decide) rfl ?_
  have L2 : ∀ (f : Nat) (h9 : Nat) (E1 : Nat → Int), 24 - h9 < f → (h9 ≤ 24) → (E1 = zt (σ 8) h9) → hvV p l e { frames := 10, cells := 0, slots := 0, locals := 254 } s m args below meth c 8 (moR a0) 0 0 (MQ below (moQ D cI cZ a0 none (sA (sA (sA (sA (sA (sA (sA (sA σ 0 (ua (ua (σ 0) 17 (pgu (pgE σ d t) (pgS σ d t).1 288)) 18 (pgf (pgE σ d t) (pgS σ d t).1 288))) 5 (pgS σ d t).1) 6 (pgS σ d t).2) 7 (ms (σ 1) (pgL σ d t) (σ 1 1).toNat)) 8 (pgE σ d t)) 9 (pgW (pgE σ d t) (pgS σ d t).1 (σ 9) 288)) 10 (pgB (pgE σ d t) (pgS σ d t).1 (σ 10) 288)) 14 (pgY (pgE σ d t) (pgS σ d t).1 (zt (σ 14) 12) 288))) args s 0 0 (moR a0)) (moI D cI cZ a0 s.heap (sA σ 8 E1)) 2 [(0, .ref a0), (1, .int (iz d)), (2, .int (iz t)), (3, .int (iz ((h9 : Nat) : Int)))] [] := by
    intro f
    induction f with
    | zero => intro _ _ hm; exact absurd hm (Nat.not_lt_zero _)
    | succ f ih2 =>
      intro h9 E1 hm2 hh9 hh3
      refine hv_iload_n C 3 3 dX12_plugs_2 rfl rfl ?_
      refine hv_bipush C dX12_plugs_3 (by decide) ?_
      refine hv_icmp_ge C 21 dX12_plugs_5 (by decide) (by omega) (by omega) (fun h5 => ?_) (fun h5 => ?_)
      · skip
        refine hv_bipush C dX12_plugs_21 (by decide) ?_
        refine hv_iload_n C 1 1 dX12_plugs_23 rfl rfl ?_
        refine hv_imul C dX12_plugs_24 ?_
        refine hv_iload_n C 2 2 dX12_plugs_25 rfl rfl ?_
        refine hv_iadd C dX12_plugs_26 ?_
        refine hv_iconst C dX12_plugs_27 ?_
        refine hv_isub C dX12_plugs_28 ?_
        refine hv_istore_n C 3 [(3, .int (iz (((48 * d) + t) - 1))), (0, .ref a0), (1, .int (iz d)), (2, .int (iz t))] dX12_plugs_29 rfl (by decide) rfl ?_
        refine hv_iload_n C 3 0 dX12_plugs_30 rfl rfl ?_
        refine hv_if_lt C 92 dX12_plugs_31 (by decide) (by omega) (fun h31 => ?_) (fun h31 => ?_)
        · skip
          refine mo_st (σ2 := sA (sA σ 5 (σ 5)) 8 E1) ((sA_id (sA σ 8 E1) 5).symm.trans (by rw [sA_comm (j := 8) (k := 5) (by decide)]; first | done | rfl)) ?_
          obtain ⟨S2, eS2⟩ : ∃ xq9 : Nat → Int, xq9 = (σ 5) := ⟨_, rfl⟩
          refine mo_st (σ2 := sA (sA σ 5 S2) 8 E1) (by rw [eS2]) ?_
          refine mo_st (σ2 := sA (sA (sA σ 5 S2) 6 (σ 6)) 8 E1) ((sA_id (sA (sA σ 5 S2) 8 E1) 6).symm.trans (by rw [sA_comm (j := 8) (k := 6) (by decide)]; first | done | rfl)) ?_
          obtain ⟨K2, eK2⟩ : ∃ xq9 : Nat → Int, xq9 = (σ 6) := ⟨_, rfl⟩
          refine mo_st (σ2 := sA (sA (sA σ 5 S2) 6 K2) 8 E1) (by rw [eK2]) ?_
          refine mo_st (σ2 := sA (sA (sA (sA σ 5 S2) 6 K2) 7 (σ 7)) 8 E1) ((sA_id (sA (sA (sA σ 5 S2) 6 K2) 8 E1) 7).symm.trans (by rw [sA_comm (j := 8) (k := 7) (by decide)]; first | done | rfl)) ?_
          obtain ⟨L2, eL2⟩ : ∃ xq9 : Nat → Int, xq9 = (σ 7) := ⟨_, rfl⟩
          refine mo_st (σ2 := sA (sA (sA (sA σ 5 S2) 6 K2) 7 L2) 8 E1) (by rw [eL2]) ?_
          obtain ⟨E2, eE2⟩ : ∃ xq9 : Nat → Int, xq9 = E1 := ⟨_, rfl⟩
          refine mo_st (σ2 := sA (sA (sA (sA σ 5 S2) 6 K2) 7 L2) 8 E2) (by rw [eE2]) ?_
          have zP9 : pgP d t = 48 * d + t - 1 := rfl
          have zE : pgE σ d t = E2 := by rw [eE2]; unfold pgE; first | (rw [if_pos (by omega), zA1, hE3, show h2 = 24 by omega, hh3, show h9 = 24 by omega]; done) | (rw [if_neg (by omega), hh3, show h9 = 24 by omega]; done)
          have zQ : pgQ σ d t = (S2, K2) := by rw [eS2, eK2]; unfold pgQ; first | (rw [if_pos (by omega), zA1]; done) | (rw [if_neg (by omega)]; done)
          have zL : pgL σ d t = L2 := by rw [eL2]; unfold pgL; first | (rw [if_pos (by omega), eL1]; done) | (rw [if_neg (by omega)]; done)
          have zrS2 : ∀ i, inI (S2 i) := by rw [eS2]; first | exact zrS1 | exact fun _ => hσ _ _
          have zrK2 : ∀ i, inI (K2 i) := by rw [eK2]; first | exact zrK1 | exact fun _ => hσ _ _
          have zL2 : (∀ i, inI (L2 i)) ∧ L2 0 = 0 := by rw [eL2]; first | exact zL1 | exact ⟨fun _ => hσ _ _, h70⟩
          have zL2r := zL2.1
          have zrE2 : ∀ i, inI (E2 i) := by rw [eE2]; first | (rw [hE3]; exact ah9_in (by rw [hh3]; exact zt_in (fun _ => hσ _ _) _) zrS1 _) | (rw [hh3]; exact zt_in (fun _ => hσ _ _) _)
          refine hv_aload_n C 0 1 dX12_plugs_92 rfl rfl ?_
          refine hv_iload_n C 1 2 dX12_plugs_93 rfl rfl ?_
          refine hv_iload_n C 2 3 dX12_plugs_94 rfl rfl ?_
          refine hv_bipush C dX12_plugs_95 (by decide) ?_
          refine mo_call [.int (iz d), .int (iz t), .int (iz 23)] [] C K (k_strung l (sA (sA (sA (sA σ 5 S2) 6 K2) 7 L2) 8 E2) d t 23 (by repeat (first | assumption | refine rg_sA ?_ ?_ | refine in_ua ?_ (by omega) | exact fun _ => hσ _ _)) hc hs hh hl hwi (by omega) (by omega) (by omega) (ms_in hc hwi zL2.1 zL2.2).1) ck_strung (by decide) rfl (Nat.le_of_ble_eq_true rfl) dX12_plugs_97 ?_
          refine mo_st (σ2 := sA (sA (sA (sA σ 5 (sgr (σ 1) L2 K2 S2 d t 23).1) 6 (sgr (σ 1) L2 K2 S2 d t 23).2) 7 (ms (σ 1) L2 ((σ 1) 1).toNat)) 8 E2) (by first | exact s5678 _ _ _ _ _ _ _ _ | exact s8_5 _ _ _ _ _) ?_
          obtain ⟨S3, eS3⟩ : ∃ xq9 : Nat → Int, xq9 = (sgr (σ 1) L2 K2 S2 d t 23).1 := ⟨_, rfl⟩
          refine mo_st (σ2 := sA (sA (sA (sA σ 5 S3) 6 (sgr (σ 1) L2 K2 S2 d t 23).2) 7 (ms (σ 1) L2 ((σ 1) 1).toNat)) 8 E2) (by rw [eS3]) ?_
          obtain ⟨K3, eK3⟩ : ∃ xq9 : Nat → Int, xq9 = (sgr (σ 1) L2 K2 S2 d t 23).2 := ⟨_, rfl⟩
          refine mo_st (σ2 := sA (sA (sA (sA σ 5 S3) 6 K3) 7 (ms (σ 1) L2 ((σ 1) 1).toNat)) 8 E2) (by rw [eK3]) ?_
          obtain ⟨L3, eL3⟩ : ∃ xq9 : Nat → Int, xq9 = (ms (σ 1) L2 ((σ 1) 1).toNat) := ⟨_, rfl⟩
          refine mo_st (σ2 := sA (sA (sA (sA σ 5 S3) 6 K3) 7 L3) 8 E2) (by rw [eL3]) ?_
          have zS3 : pgS σ d t = (S3, K3) := by rw [eS3, eK3]; unfold pgS; rw [zL, zQ]
          have zS3h : ∀ q9 : Nat, q9 < 24 → -1 ≤ S3 q9 ∧ S3 q9 ≤ 4095 := by rw [eS3]; exact fun q9 z9 => sgr_24 hc _ _ _ q9 z9
          refine hv_aload_n C 0 1 dX12_plugs_100 rfl rfl ?_
          refine hv_iconst C dX12_plugs_101 ?_
          refine mo_puti C K (σ2 := u2 (sA (sA (sA (sA σ 5 S3) 6 K3) 7 L3) 8 E2) 0 17 0) 17 (by decide) rfl mo_hw fl_259 rfl rfl (ty := .int) (by decide +kernel) rfl rfl dX12_plugs_102 ?_
          refine mo_st (σ2 := sA (sA (sA (sA (sA σ 0 (ua (σ 0) 17 0)) 5 S3) 6 K3) 7 L3) 8 E2) (by rw [u2_sA, sA_comm (j := 8) (k := 0) (by decide), sA_comm (j := 7) (k := 0) (by decide), sA_comm (j := 6) (k := 0) (by decide), sA_comm (j := 5) (k := 0) (by decide)]; first | done | rfl) ?_
          refine hv_aload_n C 0 1 dX12_plugs_105 rfl rfl ?_
          refine hv_iconst C dX12_plugs_106 ?_
          refine mo_puti C K (σ2 := u2 (sA (sA (sA (sA (sA σ 0 (ua (σ 0) 17 0)) 5 S3) 6 K3) 7 L3) 8 E2) 0 18 0) 18 (by decide) rfl mo_hw fl_262 rfl rfl (ty := .int) (by decide +kernel) rfl rfl dX12_plugs_107 ?_
          refine mo_st (σ2 := sA (sA (sA (sA (sA σ 0 (ua (ua (σ 0) 17 0) 18 0)) 5 S3) 6 K3) 7 L3) 8 E2) (by rw [u2_sA, sA_comm (j := 8) (k := 0) (by decide), sA_comm (j := 7) (k := 0) (by decide), sA_comm (j := 6) (k := 0) (by decide), sA_comm (j := 5) (k := 0) (by decide), sA_sA]; first | done | rfl) ?_
          clear hc hs hh hl hwi h70
          refine hv_iconst C dX12_plugs_110 ?_
          refine hv_istore C 4 [(4, .int (iz 0)), (3, .int (iz (((48 * d) + t) - 1))), (0, .ref a0), (1, .int (iz d)), (2, .int (iz t))] dX12_plugs_111 (by decide) rfl ?_
          have L113 : ∀ (f : Nat) (w : Nat) (Y1 : Nat → Int), 12 - w < f → (w ≤ 12) → (Y1 = zt (σ 14) w) → hvV p l e { frames := 10, cells := 0, slots := 0, locals := 254 } s m args below meth c 8 (moR a0) 0 0 (MQ below (moQ D cI cZ a0 none (sA (sA (sA (sA (sA (sA (sA (sA σ 0 (ua (ua (σ 0) 17 (pgu (pgE σ d t) (pgS σ d t).1 288)) 18 (pgf (pgE σ d t) (pgS σ d t).1 288))) 5 (pgS σ d t).1) 6 (pgS σ d t).2) 7 (ms (σ 1) (pgL σ d t) (σ 1 1).toNat)) 8 (pgE σ d t)) 9 (pgW (pgE σ d t) (pgS σ d t).1 (σ 9) 288)) 10 (pgB (pgE σ d t) (pgS σ d t).1 (σ 10) 288)) 14 (pgY (pgE σ d t) (pgS σ d t).1 (zt (σ 14) 12) 288))) args s 0 0 (moR a0)) (moI D cI cZ a0 s.heap (sA (sA (sA (sA (sA (sA σ 0 (ua (ua (σ 0) 17 0) 18 0)) 5 S3) 6 K3) 7 L3) 8 E2) 14 Y1)) 113 [(0, .ref a0), (1, .int (iz d)), (2, .int (iz t)), (3, .int (iz (((48 * d) + t) - 1))), (4, .int (iz ((w : Nat) : Int)))] [] := by
            intro f
            induction f with
            | zero => intro _ _ hm; exact absurd hm (Nat.not_lt_zero _)
            | succ f ih113 =>
              intro w Y1 hm113 hw9 hY1
              refine hv_iload C 4 4 dX12_plugs_113 rfl ?_
              refine hv_bipush C dX12_plugs_115 (by decide) ?_
              refine hv_icmp_ge C 134 dX12_plugs_117 (by decide) (by omega) (by omega) (fun h117 => ?_) (fun h117 => ?_)
              · skip
                refine hv_iconst C dX12_plugs_134 ?_
                refine hv_istore C 4 [(4, .int (iz 0)), (0, .ref a0), (1, .int (iz d)), (2, .int (iz t)), (3, .int (iz (((48 * d) + t) - 1)))] dX12_plugs_135 (by decide) rfl ?_
                have L137 : ∀ (f : Nat) (k : Nat) (Y : Nat → Int) (W : Nat → Int) (B : Nat → Int) (pu : Int) (fr : Int), 288 - k < f → (k ≤ 288) → (Y = pgY E2 S3 Y1 k) → (W = pgW E2 S3 (σ 9) k) → (B = pgB E2 S3 (σ 10) k) → (pu = pgu E2 S3 k) → (fr = pgf E2 S3 k) → hvV p l e { frames := 10, cells := 0, slots := 0, locals := 254 } s m args below meth c 8 (moR a0) 0 0 (MQ below (moQ D cI cZ a0 none (sA (sA (sA (sA (sA (sA (sA (sA σ 0 (ua (ua (σ 0) 17 (pgu (pgE σ d t) (pgS σ d t).1 288)) 18 (pgf (pgE σ d t) (pgS σ d t).1 288))) 5 (pgS σ d t).1) 6 (pgS σ d t).2) 7 (ms (σ 1) (pgL σ d t) (σ 1 1).toNat)) 8 (pgE σ d t)) 9 (pgW (pgE σ d t) (pgS σ d t).1 (σ 9) 288)) 10 (pgB (pgE σ d t) (pgS σ d t).1 (σ 10) 288)) 14 (pgY (pgE σ d t) (pgS σ d t).1 (zt (σ 14) 12) 288))) args s 0 0 (moR a0)) (moI D cI cZ a0 s.heap (sA (sA (sA (sA (sA (sA (sA (sA σ 0 (ua (ua (σ 0) 17 pu) 18 fr)) 5 S3) 6 K3) 7 L3) 8 E2) 9 W) 10 B) 14 Y)) 137 [(0, .ref a0), (1, .int (iz d)), (2, .int (iz t)), (3, .int (iz (((48 * d) + t) - 1))), (4, .int (iz ((k : Nat) : Int)))] [] := by
                  intro f
                  induction f with
                  | zero => intro _ _ _ _ _ _ hm; exact absurd hm (Nat.not_lt_zero _)
                  | succ f ih137 =>
                    intro k Y W B pu fr hm137 hk hY hW hB hpu hfr
                    have zr9 := pgu_r E2 S3 k
                    refine hv_iload C 4 4 dX12_plugs_137 rfl ?_
                    refine hv_sipush C dX12_plugs_139 (by decide) ?_
                    refine hv_icmp_ge C 338 dX12_plugs_142 (by decide) (by omega) (by omega) (fun h142 => ?_) (fun h142 => ?_)
                    · skip
                      exact mo_vret (Qc := fun _ _ _ _ => True) C hr hlk (by rw [zE, zS3, zL, hY, hW, hB, hpu, hfr, hY1, show w = 12 by omega, show k = 288 by omega, eL3]) dX12_plugs_338
                    · skip
                      have zSk := zS3h (k / 12) (by omega)
                      have zEk := zrE2 (k / 12)
                      refine hv_iload C 4 4 dX12_plugs_145 rfl ?_
                      refine hv_bipush C dX12_plugs_147 (by decide) ?_
                      refine hv_irem C (by omega) (by omega) (by omega) (by omega) dX12_plugs_149 ?_
                      refine hv_as (((k % 12 : Nat) : Int)) (by omega) ?_
                      refine hv_istore C 5 [(5, .int (iz ((k % 12 : Nat) : Int))), (0, .ref a0), (1, .int (iz d)), (2, .int (iz t)), (3, .int (iz (((48 * d) + t) - 1))), (4, .int (iz ((k : Nat) : Int)))] dX12_plugs_150 (by decide) rfl ?_
                      refine hv_aload_n C 0 1 dX12_plugs_152 rfl rfl ?_
                      refine mo_geta C K 16 8 (by decide) rfl mo_hw fl_32 rfl dX12_plugs_153 ?_
                      refine hv_iload C 4 5 dX12_plugs_156 rfl ?_
                      refine hv_bipush C dX12_plugs_158 (by decide) ?_
                      refine hv_idiv C (by omega) (by omega) (by omega) (by omega) dX12_plugs_160 ?_
                      refine hv_as (((k / 12 : Nat) : Int)) (by omega) ?_
                      refine mo_iald C K 8 24 (k / 12) rfl (by omega) (by omega) (by decide) dX12_plugs_161 ?_
                      refine hv_as (E2 (k / 12)) rfl ?_
                      refine hv_iload C 5 0 dX12_plugs_162 rfl ?_
                      refine hv_ishr C (k % 12) (by omega) (by omega) (by omega) dX12_plugs_164 ?_
                      refine hv_iconst C dX12_plugs_165 ?_
                      refine hv_imsk C 1 (by decide) (by decide) dX12_plugs_166 ?_
                      refine hv_iconst C dX12_plugs_167 ?_
                      refine hv_icmp_ne C 175 dX12_plugs_168 (by decide) (by omega) (by omega) (fun h168 => ?_) (fun h168 => ?_)
                      · skip
                        refine hv_iconst C dX12_plugs_175 ?_
                        refine hv_istore C 6 [(6, .int (iz 0)), (5, .int (iz ((k % 12 : Nat) : Int))), (0, .ref a0), (1, .int (iz d)), (2, .int (iz t)), (3, .int (iz (((48 * d) + t) - 1))), (4, .int (iz ((k : Nat) : Int)))] dX12_plugs_176 (by decide) rfl ?_
                        refine hv_aload_n C 0 2 dX12_plugs_178 rfl rfl ?_
                        refine mo_geta C K 13 5 (by decide) rfl mo_hw fl_23 rfl dX12_plugs_179 ?_
                        refine hv_iload C 4 6 dX12_plugs_182 rfl ?_
                        refine hv_bipush C dX12_plugs_184 (by decide) ?_
                        refine hv_idiv C (by omega) (by omega) (by omega) (by omega) dX12_plugs_186 ?_
                        refine hv_as (((k / 12 : Nat) : Int)) (by omega) ?_
                        refine mo_iald C K 5 24 (k / 12) rfl (by omega) (by omega) (by decide) dX12_plugs_187 ?_
                        refine hv_as (S3 (k / 12)) rfl ?_
                        refine hv_if_le C 214 dX12_plugs_188 (by decide) (by omega) (fun h188 => ?_) (fun h188 => ?_)
                        · skip
                          refine hv_iconst C dX12_plugs_214 ?_
                          refine hv_istore C 7 [(7, .int (iz 0)), (6, .int (iz 0)), (5, .int (iz ((k % 12 : Nat) : Int))), (0, .ref a0), (1, .int (iz d)), (2, .int (iz t)), (3, .int (iz (((48 * d) + t) - 1))), (4, .int (iz ((k : Nat) : Int)))] dX12_plugs_215 (by decide) rfl ?_
                          have zw9 : ¬ (pgw E2 k) := h168
                          have zn9 : ¬ (pgn S3 k) := by intro z9; first | exact h207 z9.2 | exact absurd z9.1 (by omega)
                          refine hv_iload C 6 1 dX12_plugs_217 rfl ?_
                          refine hv_if_eq C 238 dX12_plugs_219 (by decide) (by decide) (fun _ => ?_) (fun h => absurd h (by decide))
                          refine hv_iload C 6 1 dX12_plugs_238 rfl ?_
                          refine hv_iload C 7 0 dX12_plugs_240 rfl ?_
                          refine hv_icmp_ne C 248 dX12_plugs_242 (by decide) (by decide) (by decide) (fun h => absurd h (by decide)) (fun _ => ?_)
                          refine hv_goto C 332 dX12_plugs_245 (by decide) ?_
                          refine hv_iinc C 4 7 [(4, .int (iz (((k : Nat) : Int) + 1))), (7, .int (iz 0)), (6, .int (iz 0)), (5, .int (iz ((k % 12 : Nat) : Int))), (0, .ref a0), (1, .int (iz d)), (2, .int (iz t)), (3, .int (iz (((48 * d) + t) - 1)))] dX12_plugs_332 rfl (by decide) rfl ?_
                          refine hv_goto C 137 dX12_plugs_335 (by decide) ?_
                          refine hv_loc [4, 5, 6, 7, 0] [(0, .ref a0), (1, .int (iz d)), (2, .int (iz t)), (3, .int (iz (((48 * d) + t) - 1))), (4, .int (iz (((k : Nat) : Int) + 1)))] rfl ?_
                          exact ih137 (k + 1) Y W B pu fr (by omega) (by omega) (by subst hY; subst hW; subst hB; subst hpu; subst hfr; first | (rw [pgY, if_pos ⟨zw9, zn9⟩]; first | done | rfl) | (rw [pgY, if_neg (fun z9 => zw9 z9.1)]; first | done | rfl) | (rw [pgY, if_neg (fun z9 => zn9 z9.2)]; first | done | rfl)) (by subst hY; subst hW; subst hB; subst hpu; subst hfr; first | (rw [pgW, if_neg (fun z9 => z9.1 ⟨fun _ => zn9, fun _ => zw9⟩)]; first | done | rfl) | (rw [pgW, if_neg (fun z9 => z9.1 ⟨fun a9 => absurd a9 zw9, fun a9 => absurd a9 zn9⟩)]; first | done | rfl) | (rw [pgW, if_pos ⟨fun z9 => zn9 (z9.1 zw9), by omega⟩]; first | done | rfl) | (rw [pgW, if_pos ⟨fun z9 => zw9 (z9.2 zn9), by omega⟩]; first | done | rfl) | (rw [pgW, if_neg (fun z9 => by have z8 := z9.2; omega)]; first | done | rfl)) (by subst hY; subst hW; subst hB; subst hpu; subst hfr; first | (rw [pgB, if_neg (fun z9 => z9.1 ⟨fun _ => zn9, fun _ => zw9⟩)]; first | done | rfl) | (rw [pgB, if_neg (fun z9 => z9.1 ⟨fun a9 => absurd a9 zw9, fun a9 => absurd a9 zn9⟩)]; first | done | rfl) | (rw [pgB, if_pos ⟨fun z9 => zn9 (z9.1 zw9), by omega⟩, if_neg zn9]; first | done | rfl) | (rw [pgB, if_pos ⟨fun z9 => zw9 (z9.2 zn9), by omega⟩, if_pos zn9]; first | done | rfl) | (rw [pgB, if_neg (fun z9 => by have z8 := z9.2; omega)]; first | done | rfl)) (by subst hY; subst hW; subst hB; subst hpu; subst hfr; first | (rw [pgu, if_pos ⟨zw9, zn9⟩]; first | done | rfl) | (rw [pgu, if_neg (fun z9 => zw9 z9.1)]; first | done | rfl) | (rw [pgu, if_neg (fun z9 => z9.2 zn9)]; first | done | rfl) | (rw [pgu, if_neg (fun z9 => zw9 z9.1), Int.add_zero]; first | done | rfl) | (rw [pgu, if_neg (fun z9 => z9.2 zn9), Int.add_zero]; first | done | rfl)) (by subst hY; subst hW; subst hB; subst hpu; subst hfr; first | (rw [pgf, if_pos ⟨zw9, zn9⟩]; first | done | rfl) | (rw [pgf, if_neg (fun z9 => z9.1 zw9)]; first | done | rfl) | (rw [pgf, if_neg (fun z9 => zn9 z9.2)]; first | done | rfl) | (rw [pgf, if_neg (fun z9 => z9.1 zw9), Int.add_zero]; first | done | rfl) | (rw [pgf, if_neg (fun z9 => zn9 z9.2), Int.add_zero]; first | done | rfl))
                        · skip
                          refine hv_aload_n C 0 2 dX12_plugs_191 rfl rfl ?_
                          refine mo_geta C K 13 5 (by decide) rfl mo_hw fl_23 rfl dX12_plugs_192 ?_
                          refine hv_iload C 4 6 dX12_plugs_195 rfl ?_
                          refine hv_bipush C dX12_plugs_197 (by decide) ?_
                          refine hv_idiv C (by omega) (by omega) (by omega) (by omega) dX12_plugs_199 ?_
                          refine hv_as (((k / 12 : Nat) : Int)) (by omega) ?_
                          refine mo_iald C K 5 24 (k / 12) rfl (by omega) (by omega) (by decide) dX12_plugs_200 ?_
                          refine hv_as (S3 (k / 12)) rfl ?_
                          refine hv_iload C 5 1 dX12_plugs_201 rfl ?_
                          refine hv_ishr C (k % 12) (by omega) (by omega) (by omega) dX12_plugs_203 ?_
                          refine hv_iconst C dX12_plugs_204 ?_
                          refine hv_imsk C 1 (by decide) (by decide) dX12_plugs_205 ?_
                          refine hv_iconst C dX12_plugs_206 ?_
                          refine hv_icmp_ne C 214 dX12_plugs_207 (by decide) (by omega) (by omega) (fun h207 => ?_) (fun h207 => ?_)
                          · skip
                            refine hv_iconst C dX12_plugs_214 ?_
                            refine hv_istore C 7 [(7, .int (iz 0)), (6, .int (iz 0)), (5, .int (iz ((k % 12 : Nat) : Int))), (0, .ref a0), (1, .int (iz d)), (2, .int (iz t)), (3, .int (iz (((48 * d) + t) - 1))), (4, .int (iz ((k : Nat) : Int)))] dX12_plugs_215 (by decide) rfl ?_
                            have zw9 : ¬ (pgw E2 k) := h168
                            have zn9 : ¬ (pgn S3 k) := by intro z9; first | exact h207 z9.2 | exact absurd z9.1 (by omega)
                            refine hv_iload C 6 1 dX12_plugs_217 rfl ?_
                            refine hv_if_eq C 238 dX12_plugs_219 (by decide) (by decide) (fun _ => ?_) (fun h => absurd h (by decide))
                            refine hv_iload C 6 1 dX12_plugs_238 rfl ?_
                            refine hv_iload C 7 0 dX12_plugs_240 rfl ?_
                            refine hv_icmp_ne C 248 dX12_plugs_242 (by decide) (by decide) (by decide) (fun h => absurd h (by decide)) (fun _ => ?_)
                            refine hv_goto C 332 dX12_plugs_245 (by decide) ?_
                            refine hv_iinc C 4 7 [(4, .int (iz (((k : Nat) : Int) + 1))), (7, .int (iz 0)), (6, .int (iz 0)), (5, .int (iz ((k % 12 : Nat) : Int))), (0, .ref a0), (1, .int (iz d)), (2, .int (iz t)), (3, .int (iz (((48 * d) + t) - 1)))] dX12_plugs_332 rfl (by decide) rfl ?_
                            refine hv_goto C 137 dX12_plugs_335 (by decide) ?_
                            refine hv_loc [4, 5, 6, 7, 0] [(0, .ref a0), (1, .int (iz d)), (2, .int (iz t)), (3, .int (iz (((48 * d) + t) - 1))), (4, .int (iz (((k : Nat) : Int) + 1)))] rfl ?_
                            exact ih137 (k + 1) Y W B pu fr (by omega) (by omega) (by subst hY; subst hW; subst hB; subst hpu; subst hfr; first | (rw [pgY, if_pos ⟨zw9, zn9⟩]; first | done | rfl) | (rw [pgY, if_neg (fun z9 => zw9 z9.1)]; first | done | rfl) | (rw [pgY, if_neg (fun z9 => zn9 z9.2)]; first | done | rfl)) (by subst hY; subst hW; subst hB; subst hpu; subst hfr; first | (rw [pgW, if_neg (fun z9 => z9.1 ⟨fun _ => zn9, fun _ => zw9⟩)]; first | done | rfl) | (rw [pgW, if_neg (fun z9 => z9.1 ⟨fun a9 => absurd a9 zw9, fun a9 => absurd a9 zn9⟩)]; first | done | rfl) | (rw [pgW, if_pos ⟨fun z9 => zn9 (z9.1 zw9), by omega⟩]; first | done | rfl) | (rw [pgW, if_pos ⟨fun z9 => zw9 (z9.2 zn9), by omega⟩]; first | done | rfl) | (rw [pgW, if_neg (fun z9 => by have z8 := z9.2; omega)]; first | done | rfl)) (by subst hY; subst hW; subst hB; subst hpu; subst hfr; first | (rw [pgB, if_neg (fun z9 => z9.1 ⟨fun _ => zn9, fun _ => zw9⟩)]; first | done | rfl) | (rw [pgB, if_neg (fun z9 => z9.1 ⟨fun a9 => absurd a9 zw9, fun a9 => absurd a9 zn9⟩)]; first | done | rfl) | (rw [pgB, if_pos ⟨fun z9 => zn9 (z9.1 zw9), by omega⟩, if_neg zn9]; first | done | rfl) | (rw [pgB, if_pos ⟨fun z9 => zw9 (z9.2 zn9), by omega⟩, if_pos zn9]; first | done | rfl) | (rw [pgB, if_neg (fun z9 => by have z8 := z9.2; omega)]; first | done | rfl)) (by subst hY; subst hW; subst hB; subst hpu; subst hfr; first | (rw [pgu, if_pos ⟨zw9, zn9⟩]; first | done | rfl) | (rw [pgu, if_neg (fun z9 => zw9 z9.1)]; first | done | rfl) | (rw [pgu, if_neg (fun z9 => z9.2 zn9)]; first | done | rfl) | (rw [pgu, if_neg (fun z9 => zw9 z9.1), Int.add_zero]; first | done | rfl) | (rw [pgu, if_neg (fun z9 => z9.2 zn9), Int.add_zero]; first | done | rfl)) (by subst hY; subst hW; subst hB; subst hpu; subst hfr; first | (rw [pgf, if_pos ⟨zw9, zn9⟩]; first | done | rfl) | (rw [pgf, if_neg (fun z9 => z9.1 zw9)]; first | done | rfl) | (rw [pgf, if_neg (fun z9 => zn9 z9.2)]; first | done | rfl) | (rw [pgf, if_neg (fun z9 => z9.1 zw9), Int.add_zero]; first | done | rfl) | (rw [pgf, if_neg (fun z9 => zn9 z9.2), Int.add_zero]; first | done | rfl))
                          · skip
                            refine hv_iconst C dX12_plugs_210 ?_
                            refine hv_goto C 215 dX12_plugs_211 (by decide) ?_
                            refine hv_istore C 7 [(7, .int (iz 1)), (6, .int (iz 0)), (5, .int (iz ((k % 12 : Nat) : Int))), (0, .ref a0), (1, .int (iz d)), (2, .int (iz t)), (3, .int (iz (((48 * d) + t) - 1))), (4, .int (iz ((k : Nat) : Int)))] dX12_plugs_215 (by decide) rfl ?_
                            have zw9 : ¬ (pgw E2 k) := h168
                            have zn9 : (pgn S3 k) := ⟨h188, h207⟩
                            refine hv_iload C 6 1 dX12_plugs_217 rfl ?_
                            refine hv_if_eq C 238 dX12_plugs_219 (by decide) (by decide) (fun _ => ?_) (fun h => absurd h (by decide))
                            refine hv_iload C 6 1 dX12_plugs_238 rfl ?_
                            refine hv_iload C 7 0 dX12_plugs_240 rfl ?_
                            refine hv_icmp_ne C 248 dX12_plugs_242 (by decide) (by decide) (by decide) (fun _ => ?_) (fun h => absurd h (by decide))
                            refine hv_aload_n C 0 3 dX12_plugs_248 rfl rfl ?_
                            refine mo_geti C K (x := pu) 17 (by decide) rfl mo_hw fl_259 rfl dX12_plugs_249 ?_
                            refine hv_aload_n C 0 3 dX12_plugs_252 rfl rfl ?_
                            refine mo_geti C K (x := fr) 18 (by decide) rfl mo_hw fl_262 rfl dX12_plugs_253 ?_
                            refine hv_iadd C dX12_plugs_256 ?_
                            refine hv_bipush C dX12_plugs_257 (by decide) ?_
                            refine hv_icmp_ge C 294 dX12_plugs_259 (by decide) (by omega) (by omega) (fun h259 => ?_) (fun h259 => ?_)
                            · skip
                              refine hv_aload_n C 0 3 dX12_plugs_294 rfl rfl ?_
                              refine hv_dup C dX12_plugs_295 rfl ?_
                              refine mo_geti C K (x := pu) 17 (by decide) rfl mo_hw fl_259 rfl dX12_plugs_296 ?_
                              refine hv_iload C 6 1 dX12_plugs_299 rfl ?_
                              refine hv_if_eq C 308 dX12_plugs_301 (by decide) (by decide) (fun _ => ?_) (fun h => absurd h (by decide))
                              refine hv_iconst C dX12_plugs_308 ?_
                              refine hv_iadd C dX12_plugs_309 ?_
                              refine mo_puti C K (σ2 := u2 (sA (sA (sA (sA (sA (sA (sA (sA σ 0 (ua (ua (σ 0) 17 pu) 18 fr)) 5 S3) 6 K3) 7 L3) 8 E2) 9 W) 10 B) 14 Y) 0 17 (pu + 0)) 17 (by decide) rfl mo_hw fl_259 rfl rfl (ty := .int) (by decide +kernel) rfl rfl dX12_plugs_310 ?_
                              refine mo_st (σ2 := sA (sA (sA (sA (sA (sA (sA (sA σ 0 (ua (ua (σ 0) 17 (pu + 0)) 18 fr)) 5 S3) 6 K3) 7 L3) 8 E2) 9 W) 10 B) 14 Y) (by rw [u2_sA, sA_comm (j := 14) (k := 0) (by decide), sA_comm (j := 10) (k := 0) (by decide), sA_comm (j := 9) (k := 0) (by decide), sA_comm (j := 8) (k := 0) (by decide), sA_comm (j := 7) (k := 0) (by decide), sA_comm (j := 6) (k := 0) (by decide), sA_comm (j := 5) (k := 0) (by decide), sA_sA]; rw [show (sA (sA (sA (sA (sA (sA (sA (sA σ 0 (ua (ua (σ 0) 17 pu) 18 fr)) 5 S3) 6 K3) 7 L3) 8 E2) 9 W) 10 B) 14 Y) 0 = (ua (ua (σ 0) 17 pu) 18 fr) from rfl, ua_comm (i := 18) (k := 17) (by decide), ua_ua]; first | done | rfl) ?_
                              refine hv_aload_n C 0 3 dX12_plugs_313 rfl rfl ?_
                              refine hv_dup C dX12_plugs_314 rfl ?_
                              refine mo_geti C K (x := fr) 18 (by decide) rfl mo_hw fl_262 rfl dX12_plugs_315 ?_
                              refine hv_iload C 7 0 dX12_plugs_318 rfl ?_
                              refine hv_if_eq C 327 dX12_plugs_320 (by decide) (by decide) (fun h => absurd h (by decide)) (fun _ => ?_)
                              refine hv_iconst C dX12_plugs_323 ?_
                              refine hv_goto C 328 dX12_plugs_324 (by decide) ?_
                              refine hv_iadd C dX12_plugs_328 ?_
                              refine mo_puti C K (σ2 := u2 (sA (sA (sA (sA (sA (sA (sA (sA σ 0 (ua (ua (σ 0) 17 (pu + 0)) 18 fr)) 5 S3) 6 K3) 7 L3) 8 E2) 9 W) 10 B) 14 Y) 0 18 (fr + 1)) 18 (by decide) rfl mo_hw fl_262 rfl rfl (ty := .int) (by decide +kernel) rfl rfl dX12_plugs_329 ?_
                              refine mo_st (σ2 := sA (sA (sA (sA (sA (sA (sA (sA σ 0 (ua (ua (σ 0) 17 (pu + 0)) 18 (fr + 1))) 5 S3) 6 K3) 7 L3) 8 E2) 9 W) 10 B) 14 Y) (by rw [u2_sA, sA_comm (j := 14) (k := 0) (by decide), sA_comm (j := 10) (k := 0) (by decide), sA_comm (j := 9) (k := 0) (by decide), sA_comm (j := 8) (k := 0) (by decide), sA_comm (j := 7) (k := 0) (by decide), sA_comm (j := 6) (k := 0) (by decide), sA_comm (j := 5) (k := 0) (by decide), sA_sA]; rw [show (sA (sA (sA (sA (sA (sA (sA (sA σ 0 (ua (ua (σ 0) 17 (pu + 0)) 18 fr)) 5 S3) 6 K3) 7 L3) 8 E2) 9 W) 10 B) 14 Y) 0 = (ua (ua (σ 0) 17 (pu + 0)) 18 fr) from rfl, ua_ua]; first | done | rfl) ?_
                              refine hv_iinc C 4 7 [(4, .int (iz (((k : Nat) : Int) + 1))), (7, .int (iz 1)), (6, .int (iz 0)), (5, .int (iz ((k % 12 : Nat) : Int))), (0, .ref a0), (1, .int (iz d)), (2, .int (iz t)), (3, .int (iz (((48 * d) + t) - 1)))] dX12_plugs_332 rfl (by decide) rfl ?_
                              refine hv_goto C 137 dX12_plugs_335 (by decide) ?_
                              refine hv_loc [4, 5, 6, 7, 0] [(0, .ref a0), (1, .int (iz d)), (2, .int (iz t)), (3, .int (iz (((48 * d) + t) - 1))), (4, .int (iz (((k : Nat) : Int) + 1)))] rfl ?_
                              exact ih137 (k + 1) Y W B (pu + 0) (fr + 1) (by omega) (by omega) (by subst hY; subst hW; subst hB; subst hpu; subst hfr; first | (rw [pgY, if_pos ⟨zw9, zn9⟩]; first | done | rfl) | (rw [pgY, if_neg (fun z9 => zw9 z9.1)]; first | done | rfl) | (rw [pgY, if_neg (fun z9 => zn9 z9.2)]; first | done | rfl)) (by subst hY; subst hW; subst hB; subst hpu; subst hfr; first | (rw [pgW, if_neg (fun z9 => z9.1 ⟨fun _ => zn9, fun _ => zw9⟩)]; first | done | rfl) | (rw [pgW, if_neg (fun z9 => z9.1 ⟨fun a9 => absurd a9 zw9, fun a9 => absurd a9 zn9⟩)]; first | done | rfl) | (rw [pgW, if_pos ⟨fun z9 => zn9 (z9.1 zw9), by omega⟩]; first | done | rfl) | (rw [pgW, if_pos ⟨fun z9 => zw9 (z9.2 zn9), by omega⟩]; first | done | rfl) | (rw [pgW, if_neg (fun z9 => by have z8 := z9.2; omega)]; first | done | rfl)) (by subst hY; subst hW; subst hB; subst hpu; subst hfr; first | (rw [pgB, if_neg (fun z9 => z9.1 ⟨fun _ => zn9, fun _ => zw9⟩)]; first | done | rfl) | (rw [pgB, if_neg (fun z9 => z9.1 ⟨fun a9 => absurd a9 zw9, fun a9 => absurd a9 zn9⟩)]; first | done | rfl) | (rw [pgB, if_pos ⟨fun z9 => zn9 (z9.1 zw9), by omega⟩, if_neg zn9]; first | done | rfl) | (rw [pgB, if_pos ⟨fun z9 => zw9 (z9.2 zn9), by omega⟩, if_pos zn9]; first | done | rfl) | (rw [pgB, if_neg (fun z9 => by have z8 := z9.2; omega)]; first | done | rfl)) (by subst hY; subst hW; subst hB; subst hpu; subst hfr; first | (rw [pgu, if_pos ⟨zw9, zn9⟩]; first | done | rfl) | (rw [pgu, if_neg (fun z9 => zw9 z9.1)]; first | done | rfl) | (rw [pgu, if_neg (fun z9 => z9.2 zn9)]; first | done | rfl) | (rw [pgu, if_neg (fun z9 => zw9 z9.1), Int.add_zero]; first | done | rfl) | (rw [pgu, if_neg (fun z9 => z9.2 zn9), Int.add_zero]; first | done | rfl)) (by subst hY; subst hW; subst hB; subst hpu; subst hfr; first | (rw [pgf, if_pos ⟨zw9, zn9⟩]; first | done | rfl) | (rw [pgf, if_neg (fun z9 => z9.1 zw9)]; first | done | rfl) | (rw [pgf, if_neg (fun z9 => zn9 z9.2)]; first | done | rfl) | (rw [pgf, if_neg (fun z9 => z9.1 zw9), Int.add_zero]; first | done | rfl) | (rw [pgf, if_neg (fun z9 => zn9 z9.2), Int.add_zero]; first | done | rfl))
                            · skip
                              refine hv_aload_n C 0 3 dX12_plugs_262 rfl rfl ?_
                              refine mo_geta C K 19 9 (by decide) rfl mo_hw fl_35 rfl dX12_plugs_263 ?_
                              refine hv_aload_n C 0 3 dX12_plugs_266 rfl rfl ?_
                              refine mo_geti C K (x := pu) 17 (by decide) rfl mo_hw fl_259 rfl dX12_plugs_267 ?_
                              refine hv_aload_n C 0 3 dX12_plugs_270 rfl rfl ?_
                              refine mo_geti C K (x := fr) 18 (by decide) rfl mo_hw fl_262 rfl dX12_plugs_271 ?_
                              refine hv_iadd C dX12_plugs_274 ?_
                              refine hv_iload C 5 2 dX12_plugs_275 rfl ?_
                              refine mo_iast C K 9 7 (((pu + fr) : Int)).toNat rfl (moW_set9 _ _ _ _ _ _) (by omega) (by omega) (by decide) dX12_plugs_277 ?_
                              refine mo_st (σ2 := sA (sA (sA (sA (sA (sA (sA (sA σ 0 (ua (ua (σ 0) 17 pu) 18 fr)) 5 S3) 6 K3) 7 L3) 8 E2) 9 (ua W (((pu + fr) : Int)).toNat ((k % 12 : Nat) : Int))) 10 B) 14 Y) (by rw [u2_sA, sA_comm (j := 14) (k := 9) (by decide), sA_comm (j := 10) (k := 9) (by decide), sA_sA]; first | done | rfl) ?_
                              refine hv_aload_n C 0 3 dX12_plugs_278 rfl rfl ?_
                              refine mo_geta C K 20 10 (by decide) rfl mo_hw fl_38 rfl dX12_plugs_279 ?_
                              refine hv_aload_n C 0 3 dX12_plugs_282 rfl rfl ?_
                              refine mo_geti C K (x := pu) 17 (by decide) rfl mo_hw fl_259 rfl dX12_plugs_283 ?_
                              refine hv_aload_n C 0 3 dX12_plugs_286 rfl rfl ?_
                              refine mo_geti C K (x := fr) 18 (by decide) rfl mo_hw fl_262 rfl dX12_plugs_287 ?_
                              refine hv_iadd C dX12_plugs_290 ?_
                              refine hv_iload C 7 0 dX12_plugs_291 rfl ?_
                              refine mo_zast C K 10 7 (((pu + fr) : Int)).toNat true rfl (moW_set10 _ _ _ _ _ _) (by omega) (by omega) (by decide) dX12_plugs_293 ?_
                              refine mo_st (σ2 := sA (sA (sA (sA (sA (sA (sA (sA σ 0 (ua (ua (σ 0) 17 pu) 18 fr)) 5 S3) 6 K3) 7 L3) 8 E2) 9 (ua W (((pu + fr) : Int)).toNat ((k % 12 : Nat) : Int))) 10 (ua B (((pu + fr) : Int)).toNat (xb true))) 14 Y) (by rw [u2_sA, sA_comm (j := 14) (k := 10) (by decide), sA_sA]; first | done | rfl) ?_
                              refine hv_aload_n C 0 3 dX12_plugs_294 rfl rfl ?_
                              refine hv_dup C dX12_plugs_295 rfl ?_
                              refine mo_geti C K (x := pu) 17 (by decide) rfl mo_hw fl_259 rfl dX12_plugs_296 ?_
                              refine hv_iload C 6 1 dX12_plugs_299 rfl ?_
                              refine hv_if_eq C 308 dX12_plugs_301 (by decide) (by decide) (fun _ => ?_) (fun h => absurd h (by decide))
                              refine hv_iconst C dX12_plugs_308 ?_
                              refine hv_iadd C dX12_plugs_309 ?_
                              refine mo_puti C K (σ2 := u2 (sA (sA (sA (sA (sA (sA (sA (sA σ 0 (ua (ua (σ 0) 17 pu) 18 fr)) 5 S3) 6 K3) 7 L3) 8 E2) 9 (ua W (((pu + fr) : Int)).toNat ((k % 12 : Nat) : Int))) 10 (ua B (((pu + fr) : Int)).toNat (xb true))) 14 Y) 0 17 (pu + 0)) 17 (by decide) rfl mo_hw fl_259 rfl rfl (ty := .int) (by decide +kernel) rfl rfl dX12_plugs_310 ?_
                              refine mo_st (σ2 := sA (sA (sA (sA (sA (sA (sA (sA σ 0 (ua (ua (σ 0) 17 (pu + 0)) 18 fr)) 5 S3) 6 K3) 7 L3) 8 E2) 9 (ua W (((pu + fr) : Int)).toNat ((k % 12 : Nat) : Int))) 10 (ua B (((pu + fr) : Int)).toNat (xb true))) 14 Y) (by rw [u2_sA, sA_comm (j := 14) (k := 0) (by decide), sA_comm (j := 10) (k := 0) (by decide), sA_comm (j := 9) (k := 0) (by decide), sA_comm (j := 8) (k := 0) (by decide), sA_comm (j := 7) (k := 0) (by decide), sA_comm (j := 6) (k := 0) (by decide), sA_comm (j := 5) (k := 0) (by decide), sA_sA]; rw [show (sA (sA (sA (sA (sA (sA (sA (sA σ 0 (ua (ua (σ 0) 17 pu) 18 fr)) 5 S3) 6 K3) 7 L3) 8 E2) 9 (ua W (((pu + fr) : Int)).toNat ((k % 12 : Nat) : Int))) 10 (ua B (((pu + fr) : Int)).toNat (xb true))) 14 Y) 0 = (ua (ua (σ 0) 17 pu) 18 fr) from rfl, ua_comm (i := 18) (k := 17) (by decide), ua_ua]; first | done | rfl) ?_
                              refine hv_aload_n C 0 3 dX12_plugs_313 rfl rfl ?_
                              refine hv_dup C dX12_plugs_314 rfl ?_
                              refine mo_geti C K (x := fr) 18 (by decide) rfl mo_hw fl_262 rfl dX12_plugs_315 ?_
                              refine hv_iload C 7 0 dX12_plugs_318 rfl ?_
                              refine hv_if_eq C 327 dX12_plugs_320 (by decide) (by decide) (fun h => absurd h (by decide)) (fun _ => ?_)
                              refine hv_iconst C dX12_plugs_323 ?_
                              refine hv_goto C 328 dX12_plugs_324 (by decide) ?_
                              refine hv_iadd C dX12_plugs_328 ?_
                              refine mo_puti C K (σ2 := u2 (sA (sA (sA (sA (sA (sA (sA (sA σ 0 (ua (ua (σ 0) 17 (pu + 0)) 18 fr)) 5 S3) 6 K3) 7 L3) 8 E2) 9 (ua W (((pu + fr) : Int)).toNat ((k % 12 : Nat) : Int))) 10 (ua B (((pu + fr) : Int)).toNat (xb true))) 14 Y) 0 18 (fr + 1)) 18 (by decide) rfl mo_hw fl_262 rfl rfl (ty := .int) (by decide +kernel) rfl rfl dX12_plugs_329 ?_
                              refine mo_st (σ2 := sA (sA (sA (sA (sA (sA (sA (sA σ 0 (ua (ua (σ 0) 17 (pu + 0)) 18 (fr + 1))) 5 S3) 6 K3) 7 L3) 8 E2) 9 (ua W (((pu + fr) : Int)).toNat ((k % 12 : Nat) : Int))) 10 (ua B (((pu + fr) : Int)).toNat (xb true))) 14 Y) (by rw [u2_sA, sA_comm (j := 14) (k := 0) (by decide), sA_comm (j := 10) (k := 0) (by decide), sA_comm (j := 9) (k := 0) (by decide), sA_comm (j := 8) (k := 0) (by decide), sA_comm (j := 7) (k := 0) (by decide), sA_comm (j := 6) (k := 0) (by decide), sA_comm (j := 5) (k := 0) (by decide), sA_sA]; rw [show (sA (sA (sA (sA (sA (sA (sA (sA σ 0 (ua (ua (σ 0) 17 (pu + 0)) 18 fr)) 5 S3) 6 K3) 7 L3) 8 E2) 9 (ua W (((pu + fr) : Int)).toNat ((k % 12 : Nat) : Int))) 10 (ua B (((pu + fr) : Int)).toNat (xb true))) 14 Y) 0 = (ua (ua (σ 0) 17 (pu + 0)) 18 fr) from rfl, ua_ua]; first | done | rfl) ?_
                              refine hv_iinc C 4 7 [(4, .int (iz (((k : Nat) : Int) + 1))), (7, .int (iz 1)), (6, .int (iz 0)), (5, .int (iz ((k % 12 : Nat) : Int))), (0, .ref a0), (1, .int (iz d)), (2, .int (iz t)), (3, .int (iz (((48 * d) + t) - 1)))] dX12_plugs_332 rfl (by decide) rfl ?_
                              refine hv_goto C 137 dX12_plugs_335 (by decide) ?_
                              refine hv_loc [4, 5, 6, 7, 0] [(0, .ref a0), (1, .int (iz d)), (2, .int (iz t)), (3, .int (iz (((48 * d) + t) - 1))), (4, .int (iz (((k : Nat) : Int) + 1)))] rfl ?_
                              exact ih137 (k + 1) Y (ua W (((pu + fr) : Int)).toNat ((k % 12 : Nat) : Int)) (ua B (((pu + fr) : Int)).toNat (xb true)) (pu + 0) (fr + 1) (by omega) (by omega) (by subst hY; subst hW; subst hB; subst hpu; subst hfr; first | (rw [pgY, if_pos ⟨zw9, zn9⟩]; first | done | rfl) | (rw [pgY, if_neg (fun z9 => zw9 z9.1)]; first | done | rfl) | (rw [pgY, if_neg (fun z9 => zn9 z9.2)]; first | done | rfl)) (by subst hY; subst hW; subst hB; subst hpu; subst hfr; first | (rw [pgW, if_neg (fun z9 => z9.1 ⟨fun _ => zn9, fun _ => zw9⟩)]; first | done | rfl) | (rw [pgW, if_neg (fun z9 => z9.1 ⟨fun a9 => absurd a9 zw9, fun a9 => absurd a9 zn9⟩)]; first | done | rfl) | (rw [pgW, if_pos ⟨fun z9 => zn9 (z9.1 zw9), by omega⟩]; first | done | rfl) | (rw [pgW, if_pos ⟨fun z9 => zw9 (z9.2 zn9), by omega⟩]; first | done | rfl) | (rw [pgW, if_neg (fun z9 => by have z8 := z9.2; omega)]; first | done | rfl)) (by subst hY; subst hW; subst hB; subst hpu; subst hfr; first | (rw [pgB, if_neg (fun z9 => z9.1 ⟨fun _ => zn9, fun _ => zw9⟩)]; first | done | rfl) | (rw [pgB, if_neg (fun z9 => z9.1 ⟨fun a9 => absurd a9 zw9, fun a9 => absurd a9 zn9⟩)]; first | done | rfl) | (rw [pgB, if_pos ⟨fun z9 => zn9 (z9.1 zw9), by omega⟩, if_neg zn9]; first | done | rfl) | (rw [pgB, if_pos ⟨fun z9 => zw9 (z9.2 zn9), by omega⟩, if_pos zn9]; first | done | rfl) | (rw [pgB, if_neg (fun z9 => by have z8 := z9.2; omega)]; first | done | rfl)) (by subst hY; subst hW; subst hB; subst hpu; subst hfr; first | (rw [pgu, if_pos ⟨zw9, zn9⟩]; first | done | rfl) | (rw [pgu, if_neg (fun z9 => zw9 z9.1)]; first | done | rfl) | (rw [pgu, if_neg (fun z9 => z9.2 zn9)]; first | done | rfl) | (rw [pgu, if_neg (fun z9 => zw9 z9.1), Int.add_zero]; first | done | rfl) | (rw [pgu, if_neg (fun z9 => z9.2 zn9), Int.add_zero]; first | done | rfl)) (by subst hY; subst hW; subst hB; subst hpu; subst hfr; first | (rw [pgf, if_pos ⟨zw9, zn9⟩]; first | done | rfl) | (rw [pgf, if_neg (fun z9 => z9.1 zw9)]; first | done | rfl) | (rw [pgf, if_neg (fun z9 => zn9 z9.2)]; first | done | rfl) | (rw [pgf, if_neg (fun z9 => z9.1 zw9), Int.add_zero]; first | done | rfl) | (rw [pgf, if_neg (fun z9 => zn9 z9.2), Int.add_zero]; first | done | rfl))
                      · skip
                        refine hv_iconst C dX12_plugs_171 ?_
                        refine hv_goto C 176 dX12_plugs_172 (by decide) ?_
                        refine hv_istore C 6 [(6, .int (iz 1)), (5, .int (iz ((k % 12 : Nat) : Int))), (0, .ref a0), (1, .int (iz d)), (2, .int (iz t)), (3, .int (iz (((48 * d) + t) - 1))), (4, .int (iz ((k : Nat) : Int)))] dX12_plugs_176 (by decide) rfl ?_
                        refine hv_aload_n C 0 2 dX12_plugs_178 rfl rfl ?_
                        refine mo_geta C K 13 5 (by decide) rfl mo_hw fl_23 rfl dX12_plugs_179 ?_
                        refine hv_iload C 4 6 dX12_plugs_182 rfl ?_
                        refine hv_bipush C dX12_plugs_184 (by decide) ?_
                        refine hv_idiv C (by omega) (by omega) (by omega) (by omega) dX12_plugs_186 ?_
                        refine hv_as (((k / 12 : Nat) : Int)) (by omega) ?_
                        refine mo_iald C K 5 24 (k / 12) rfl (by omega) (by omega) (by decide) dX12_plugs_187 ?_
                        refine hv_as (S3 (k / 12)) rfl ?_
                        refine hv_if_le C 214 dX12_plugs_188 (by decide) (by omega) (fun h188 => ?_) (fun h188 => ?_)
                        · skip
                          refine hv_iconst C dX12_plugs_214 ?_
                          refine hv_istore C 7 [(7, .int (iz 0)), (6, .int (iz 1)), (5, .int (iz ((k % 12 : Nat) : Int))), (0, .ref a0), (1, .int (iz d)), (2, .int (iz t)), (3, .int (iz (((48 * d) + t) - 1))), (4, .int (iz ((k : Nat) : Int)))] dX12_plugs_215 (by decide) rfl ?_
                          have zw9 : (pgw E2 k) := h168
                          have zn9 : ¬ (pgn S3 k) := by intro z9; first | exact h207 z9.2 | exact absurd z9.1 (by omega)
                          refine hv_iload C 6 1 dX12_plugs_217 rfl ?_
                          refine hv_if_eq C 238 dX12_plugs_219 (by decide) (by decide) (fun h => absurd h (by decide)) (fun _ => ?_)
                          refine hv_iload C 7 0 dX12_plugs_222 rfl ?_
                          refine hv_if_eq C 238 dX12_plugs_224 (by decide) (by decide) (fun _ => ?_) (fun h => absurd h (by decide))
                          refine hv_iload C 6 1 dX12_plugs_238 rfl ?_
                          refine hv_iload C 7 0 dX12_plugs_240 rfl ?_
                          refine hv_icmp_ne C 248 dX12_plugs_242 (by decide) (by decide) (by decide) (fun _ => ?_) (fun h => absurd h (by decide))
                          refine hv_aload_n C 0 3 dX12_plugs_248 rfl rfl ?_
                          refine mo_geti C K (x := pu) 17 (by decide) rfl mo_hw fl_259 rfl dX12_plugs_249 ?_
                          refine hv_aload_n C 0 3 dX12_plugs_252 rfl rfl ?_
                          refine mo_geti C K (x := fr) 18 (by decide) rfl mo_hw fl_262 rfl dX12_plugs_253 ?_
                          refine hv_iadd C dX12_plugs_256 ?_
                          refine hv_bipush C dX12_plugs_257 (by decide) ?_
                          refine hv_icmp_ge C 294 dX12_plugs_259 (by decide) (by omega) (by omega) (fun h259 => ?_) (fun h259 => ?_)
                          · skip
                            refine hv_aload_n C 0 3 dX12_plugs_294 rfl rfl ?_
                            refine hv_dup C dX12_plugs_295 rfl ?_
                            refine mo_geti C K (x := pu) 17 (by decide) rfl mo_hw fl_259 rfl dX12_plugs_296 ?_
                            refine hv_iload C 6 1 dX12_plugs_299 rfl ?_
                            refine hv_if_eq C 308 dX12_plugs_301 (by decide) (by decide) (fun h => absurd h (by decide)) (fun _ => ?_)
                            refine hv_iconst C dX12_plugs_304 ?_
                            refine hv_goto C 309 dX12_plugs_305 (by decide) ?_
                            refine hv_iadd C dX12_plugs_309 ?_
                            refine mo_puti C K (σ2 := u2 (sA (sA (sA (sA (sA (sA (sA (sA σ 0 (ua (ua (σ 0) 17 pu) 18 fr)) 5 S3) 6 K3) 7 L3) 8 E2) 9 W) 10 B) 14 Y) 0 17 (pu + 1)) 17 (by decide) rfl mo_hw fl_259 rfl rfl (ty := .int) (by decide +kernel) rfl rfl dX12_plugs_310 ?_
                            refine mo_st (σ2 := sA (sA (sA (sA (sA (sA (sA (sA σ 0 (ua (ua (σ 0) 17 (pu + 1)) 18 fr)) 5 S3) 6 K3) 7 L3) 8 E2) 9 W) 10 B) 14 Y) (by rw [u2_sA, sA_comm (j := 14) (k := 0) (by decide), sA_comm (j := 10) (k := 0) (by decide), sA_comm (j := 9) (k := 0) (by decide), sA_comm (j := 8) (k := 0) (by decide), sA_comm (j := 7) (k := 0) (by decide), sA_comm (j := 6) (k := 0) (by decide), sA_comm (j := 5) (k := 0) (by decide), sA_sA]; rw [show (sA (sA (sA (sA (sA (sA (sA (sA σ 0 (ua (ua (σ 0) 17 pu) 18 fr)) 5 S3) 6 K3) 7 L3) 8 E2) 9 W) 10 B) 14 Y) 0 = (ua (ua (σ 0) 17 pu) 18 fr) from rfl, ua_comm (i := 18) (k := 17) (by decide), ua_ua]; first | done | rfl) ?_
                            refine hv_aload_n C 0 3 dX12_plugs_313 rfl rfl ?_
                            refine hv_dup C dX12_plugs_314 rfl ?_
                            refine mo_geti C K (x := fr) 18 (by decide) rfl mo_hw fl_262 rfl dX12_plugs_315 ?_
                            refine hv_iload C 7 0 dX12_plugs_318 rfl ?_
                            refine hv_if_eq C 327 dX12_plugs_320 (by decide) (by decide) (fun _ => ?_) (fun h => absurd h (by decide))
                            refine hv_iconst C dX12_plugs_327 ?_
                            refine hv_iadd C dX12_plugs_328 ?_
                            refine mo_puti C K (σ2 := u2 (sA (sA (sA (sA (sA (sA (sA (sA σ 0 (ua (ua (σ 0) 17 (pu + 1)) 18 fr)) 5 S3) 6 K3) 7 L3) 8 E2) 9 W) 10 B) 14 Y) 0 18 (fr + 0)) 18 (by decide) rfl mo_hw fl_262 rfl rfl (ty := .int) (by decide +kernel) rfl rfl dX12_plugs_329 ?_
                            refine mo_st (σ2 := sA (sA (sA (sA (sA (sA (sA (sA σ 0 (ua (ua (σ 0) 17 (pu + 1)) 18 (fr + 0))) 5 S3) 6 K3) 7 L3) 8 E2) 9 W) 10 B) 14 Y) (by rw [u2_sA, sA_comm (j := 14) (k := 0) (by decide), sA_comm (j := 10) (k := 0) (by decide), sA_comm (j := 9) (k := 0) (by decide), sA_comm (j := 8) (k := 0) (by decide), sA_comm (j := 7) (k := 0) (by decide), sA_comm (j := 6) (k := 0) (by decide), sA_comm (j := 5) (k := 0) (by decide), sA_sA]; rw [show (sA (sA (sA (sA (sA (sA (sA (sA σ 0 (ua (ua (σ 0) 17 (pu + 1)) 18 fr)) 5 S3) 6 K3) 7 L3) 8 E2) 9 W) 10 B) 14 Y) 0 = (ua (ua (σ 0) 17 (pu + 1)) 18 fr) from rfl, ua_ua]; first | done | rfl) ?_
                            refine hv_iinc C 4 7 [(4, .int (iz (((k : Nat) : Int) + 1))), (7, .int (iz 0)), (6, .int (iz 1)), (5, .int (iz ((k % 12 : Nat) : Int))), (0, .ref a0), (1, .int (iz d)), (2, .int (iz t)), (3, .int (iz (((48 * d) + t) - 1)))] dX12_plugs_332 rfl (by decide) rfl ?_
                            refine hv_goto C 137 dX12_plugs_335 (by decide) ?_
                            refine hv_loc [4, 5, 6, 7, 0] [(0, .ref a0), (1, .int (iz d)), (2, .int (iz t)), (3, .int (iz (((48 * d) + t) - 1))), (4, .int (iz (((k : Nat) : Int) + 1)))] rfl ?_
                            exact ih137 (k + 1) Y W B (pu + 1) (fr + 0) (by omega) (by omega) (by subst hY; subst hW; subst hB; subst hpu; subst hfr; first | (rw [pgY, if_pos ⟨zw9, zn9⟩]; first | done | rfl) | (rw [pgY, if_neg (fun z9 => zw9 z9.1)]; first | done | rfl) | (rw [pgY, if_neg (fun z9 => zn9 z9.2)]; first | done | rfl)) (by subst hY; subst hW; subst hB; subst hpu; subst hfr; first | (rw [pgW, if_neg (fun z9 => z9.1 ⟨fun _ => zn9, fun _ => zw9⟩)]; first | done | rfl) | (rw [pgW, if_neg (fun z9 => z9.1 ⟨fun a9 => absurd a9 zw9, fun a9 => absurd a9 zn9⟩)]; first | done | rfl) | (rw [pgW, if_pos ⟨fun z9 => zn9 (z9.1 zw9), by omega⟩]; first | done | rfl) | (rw [pgW, if_pos ⟨fun z9 => zw9 (z9.2 zn9), by omega⟩]; first | done | rfl) | (rw [pgW, if_neg (fun z9 => by have z8 := z9.2; omega)]; first | done | rfl)) (by subst hY; subst hW; subst hB; subst hpu; subst hfr; first | (rw [pgB, if_neg (fun z9 => z9.1 ⟨fun _ => zn9, fun _ => zw9⟩)]; first | done | rfl) | (rw [pgB, if_neg (fun z9 => z9.1 ⟨fun a9 => absurd a9 zw9, fun a9 => absurd a9 zn9⟩)]; first | done | rfl) | (rw [pgB, if_pos ⟨fun z9 => zn9 (z9.1 zw9), by omega⟩, if_neg zn9]; first | done | rfl) | (rw [pgB, if_pos ⟨fun z9 => zw9 (z9.2 zn9), by omega⟩, if_pos zn9]; first | done | rfl) | (rw [pgB, if_neg (fun z9 => by have z8 := z9.2; omega)]; first | done | rfl)) (by subst hY; subst hW; subst hB; subst hpu; subst hfr; first | (rw [pgu, if_pos ⟨zw9, zn9⟩]; first | done | rfl) | (rw [pgu, if_neg (fun z9 => zw9 z9.1)]; first | done | rfl) | (rw [pgu, if_neg (fun z9 => z9.2 zn9)]; first | done | rfl) | (rw [pgu, if_neg (fun z9 => zw9 z9.1), Int.add_zero]; first | done | rfl) | (rw [pgu, if_neg (fun z9 => z9.2 zn9), Int.add_zero]; first | done | rfl)) (by subst hY; subst hW; subst hB; subst hpu; subst hfr; first | (rw [pgf, if_pos ⟨zw9, zn9⟩]; first | done | rfl) | (rw [pgf, if_neg (fun z9 => z9.1 zw9)]; first | done | rfl) | (rw [pgf, if_neg (fun z9 => zn9 z9.2)]; first | done | rfl) | (rw [pgf, if_neg (fun z9 => z9.1 zw9), Int.add_zero]; first | done | rfl) | (rw [pgf, if_neg (fun z9 => zn9 z9.2), Int.add_zero]; first | done | rfl))
                          · skip
                            refine hv_aload_n C 0 3 dX12_plugs_262 rfl rfl ?_
                            refine mo_geta C K 19 9 (by decide) rfl mo_hw fl_35 rfl dX12_plugs_263 ?_
                            refine hv_aload_n C 0 3 dX12_plugs_266 rfl rfl ?_
                            refine mo_geti C K (x := pu) 17 (by decide) rfl mo_hw fl_259 rfl dX12_plugs_267 ?_
                            refine hv_aload_n C 0 3 dX12_plugs_270 rfl rfl ?_
                            refine mo_geti C K (x := fr) 18 (by decide) rfl mo_hw fl_262 rfl dX12_plugs_271 ?_
                            refine hv_iadd C dX12_plugs_274 ?_
                            refine hv_iload C 5 2 dX12_plugs_275 rfl ?_
                            refine mo_iast C K 9 7 (((pu + fr) : Int)).toNat rfl (moW_set9 _ _ _ _ _ _) (by omega) (by omega) (by decide) dX12_plugs_277 ?_
                            refine mo_st (σ2 := sA (sA (sA (sA (sA (sA (sA (sA σ 0 (ua (ua (σ 0) 17 pu) 18 fr)) 5 S3) 6 K3) 7 L3) 8 E2) 9 (ua W (((pu + fr) : Int)).toNat ((k % 12 : Nat) : Int))) 10 B) 14 Y) (by rw [u2_sA, sA_comm (j := 14) (k := 9) (by decide), sA_comm (j := 10) (k := 9) (by decide), sA_sA]; first | done | rfl) ?_
                            refine hv_aload_n C 0 3 dX12_plugs_278 rfl rfl ?_
                            refine mo_geta C K 20 10 (by decide) rfl mo_hw fl_38 rfl dX12_plugs_279 ?_
                            refine hv_aload_n C 0 3 dX12_plugs_282 rfl rfl ?_
                            refine mo_geti C K (x := pu) 17 (by decide) rfl mo_hw fl_259 rfl dX12_plugs_283 ?_
                            refine hv_aload_n C 0 3 dX12_plugs_286 rfl rfl ?_
                            refine mo_geti C K (x := fr) 18 (by decide) rfl mo_hw fl_262 rfl dX12_plugs_287 ?_
                            refine hv_iadd C dX12_plugs_290 ?_
                            refine hv_iload C 7 0 dX12_plugs_291 rfl ?_
                            refine mo_zast C K 10 7 (((pu + fr) : Int)).toNat false rfl (moW_set10 _ _ _ _ _ _) (by omega) (by omega) (by decide) dX12_plugs_293 ?_
                            refine mo_st (σ2 := sA (sA (sA (sA (sA (sA (sA (sA σ 0 (ua (ua (σ 0) 17 pu) 18 fr)) 5 S3) 6 K3) 7 L3) 8 E2) 9 (ua W (((pu + fr) : Int)).toNat ((k % 12 : Nat) : Int))) 10 (ua B (((pu + fr) : Int)).toNat (xb false))) 14 Y) (by rw [u2_sA, sA_comm (j := 14) (k := 10) (by decide), sA_sA]; first | done | rfl) ?_
                            refine hv_aload_n C 0 3 dX12_plugs_294 rfl rfl ?_
                            refine hv_dup C dX12_plugs_295 rfl ?_
                            refine mo_geti C K (x := pu) 17 (by decide) rfl mo_hw fl_259 rfl dX12_plugs_296 ?_
                            refine hv_iload C 6 1 dX12_plugs_299 rfl ?_
                            refine hv_if_eq C 308 dX12_plugs_301 (by decide) (by decide) (fun h => absurd h (by decide)) (fun _ => ?_)
                            refine hv_iconst C dX12_plugs_304 ?_
                            refine hv_goto C 309 dX12_plugs_305 (by decide) ?_
                            refine hv_iadd C dX12_plugs_309 ?_
                            refine mo_puti C K (σ2 := u2 (sA (sA (sA (sA (sA (sA (sA (sA σ 0 (ua (ua (σ 0) 17 pu) 18 fr)) 5 S3) 6 K3) 7 L3) 8 E2) 9 (ua W (((pu + fr) : Int)).toNat ((k % 12 : Nat) : Int))) 10 (ua B (((pu + fr) : Int)).toNat (xb false))) 14 Y) 0 17 (pu + 1)) 17 (by decide) rfl mo_hw fl_259 rfl rfl (ty := .int) (by decide +kernel) rfl rfl dX12_plugs_310 ?_
                            refine mo_st (σ2 := sA (sA (sA (sA (sA (sA (sA (sA σ 0 (ua (ua (σ 0) 17 (pu + 1)) 18 fr)) 5 S3) 6 K3) 7 L3) 8 E2) 9 (ua W (((pu + fr) : Int)).toNat ((k % 12 : Nat) : Int))) 10 (ua B (((pu + fr) : Int)).toNat (xb false))) 14 Y) (by rw [u2_sA, sA_comm (j := 14) (k := 0) (by decide), sA_comm (j := 10) (k := 0) (by decide), sA_comm (j := 9) (k := 0) (by decide), sA_comm (j := 8) (k := 0) (by decide), sA_comm (j := 7) (k := 0) (by decide), sA_comm (j := 6) (k := 0) (by decide), sA_comm (j := 5) (k := 0) (by decide), sA_sA]; rw [show (sA (sA (sA (sA (sA (sA (sA (sA σ 0 (ua (ua (σ 0) 17 pu) 18 fr)) 5 S3) 6 K3) 7 L3) 8 E2) 9 (ua W (((pu + fr) : Int)).toNat ((k % 12 : Nat) : Int))) 10 (ua B (((pu + fr) : Int)).toNat (xb false))) 14 Y) 0 = (ua (ua (σ 0) 17 pu) 18 fr) from rfl, ua_comm (i := 18) (k := 17) (by decide), ua_ua]; first | done | rfl) ?_
                            refine hv_aload_n C 0 3 dX12_plugs_313 rfl rfl ?_
                            refine hv_dup C dX12_plugs_314 rfl ?_
                            refine mo_geti C K (x := fr) 18 (by decide) rfl mo_hw fl_262 rfl dX12_plugs_315 ?_
                            refine hv_iload C 7 0 dX12_plugs_318 rfl ?_
                            refine hv_if_eq C 327 dX12_plugs_320 (by decide) (by decide) (fun _ => ?_) (fun h => absurd h (by decide))
                            refine hv_iconst C dX12_plugs_327 ?_
                            refine hv_iadd C dX12_plugs_328 ?_
                            refine mo_puti C K (σ2 := u2 (sA (sA (sA (sA (sA (sA (sA (sA σ 0 (ua (ua (σ 0) 17 (pu + 1)) 18 fr)) 5 S3) 6 K3) 7 L3) 8 E2) 9 (ua W (((pu + fr) : Int)).toNat ((k % 12 : Nat) : Int))) 10 (ua B (((pu + fr) : Int)).toNat (xb false))) 14 Y) 0 18 (fr + 0)) 18 (by decide) rfl mo_hw fl_262 rfl rfl (ty := .int) (by decide +kernel) rfl rfl dX12_plugs_329 ?_
                            refine mo_st (σ2 := sA (sA (sA (sA (sA (sA (sA (sA σ 0 (ua (ua (σ 0) 17 (pu + 1)) 18 (fr + 0))) 5 S3) 6 K3) 7 L3) 8 E2) 9 (ua W (((pu + fr) : Int)).toNat ((k % 12 : Nat) : Int))) 10 (ua B (((pu + fr) : Int)).toNat (xb false))) 14 Y) (by rw [u2_sA, sA_comm (j := 14) (k := 0) (by decide), sA_comm (j := 10) (k := 0) (by decide), sA_comm (j := 9) (k := 0) (by decide), sA_comm (j := 8) (k := 0) (by decide), sA_comm (j := 7) (k := 0) (by decide), sA_comm (j := 6) (k := 0) (by decide), sA_comm (j := 5) (k := 0) (by decide), sA_sA]; rw [show (sA (sA (sA (sA (sA (sA (sA (sA σ 0 (ua (ua (σ 0) 17 (pu + 1)) 18 fr)) 5 S3) 6 K3) 7 L3) 8 E2) 9 (ua W (((pu + fr) : Int)).toNat ((k % 12 : Nat) : Int))) 10 (ua B (((pu + fr) : Int)).toNat (xb false))) 14 Y) 0 = (ua (ua (σ 0) 17 (pu + 1)) 18 fr) from rfl, ua_ua]; first | done | rfl) ?_
                            refine hv_iinc C 4 7 [(4, .int (iz (((k : Nat) : Int) + 1))), (7, .int (iz 0)), (6, .int (iz 1)), (5, .int (iz ((k % 12 : Nat) : Int))), (0, .ref a0), (1, .int (iz d)), (2, .int (iz t)), (3, .int (iz (((48 * d) + t) - 1)))] dX12_plugs_332 rfl (by decide) rfl ?_
                            refine hv_goto C 137 dX12_plugs_335 (by decide) ?_
                            refine hv_loc [4, 5, 6, 7, 0] [(0, .ref a0), (1, .int (iz d)), (2, .int (iz t)), (3, .int (iz (((48 * d) + t) - 1))), (4, .int (iz (((k : Nat) : Int) + 1)))] rfl ?_
                            exact ih137 (k + 1) Y (ua W (((pu + fr) : Int)).toNat ((k % 12 : Nat) : Int)) (ua B (((pu + fr) : Int)).toNat (xb false)) (pu + 1) (fr + 0) (by omega) (by omega) (by subst hY; subst hW; subst hB; subst hpu; subst hfr; first | (rw [pgY, if_pos ⟨zw9, zn9⟩]; first | done | rfl) | (rw [pgY, if_neg (fun z9 => zw9 z9.1)]; first | done | rfl) | (rw [pgY, if_neg (fun z9 => zn9 z9.2)]; first | done | rfl)) (by subst hY; subst hW; subst hB; subst hpu; subst hfr; first | (rw [pgW, if_neg (fun z9 => z9.1 ⟨fun _ => zn9, fun _ => zw9⟩)]; first | done | rfl) | (rw [pgW, if_neg (fun z9 => z9.1 ⟨fun a9 => absurd a9 zw9, fun a9 => absurd a9 zn9⟩)]; first | done | rfl) | (rw [pgW, if_pos ⟨fun z9 => zn9 (z9.1 zw9), by omega⟩]; first | done | rfl) | (rw [pgW, if_pos ⟨fun z9 => zw9 (z9.2 zn9), by omega⟩]; first | done | rfl) | (rw [pgW, if_neg (fun z9 => by have z8 := z9.2; omega)]; first | done | rfl)) (by subst hY; subst hW; subst hB; subst hpu; subst hfr; first | (rw [pgB, if_neg (fun z9 => z9.1 ⟨fun _ => zn9, fun _ => zw9⟩)]; first | done | rfl) | (rw [pgB, if_neg (fun z9 => z9.1 ⟨fun a9 => absurd a9 zw9, fun a9 => absurd a9 zn9⟩)]; first | done | rfl) | (rw [pgB, if_pos ⟨fun z9 => zn9 (z9.1 zw9), by omega⟩, if_neg zn9]; first | done | rfl) | (rw [pgB, if_pos ⟨fun z9 => zw9 (z9.2 zn9), by omega⟩, if_pos zn9]; first | done | rfl) | (rw [pgB, if_neg (fun z9 => by have z8 := z9.2; omega)]; first | done | rfl)) (by subst hY; subst hW; subst hB; subst hpu; subst hfr; first | (rw [pgu, if_pos ⟨zw9, zn9⟩]; first | done | rfl) | (rw [pgu, if_neg (fun z9 => zw9 z9.1)]; first | done | rfl) | (rw [pgu, if_neg (fun z9 => z9.2 zn9)]; first | done | rfl) | (rw [pgu, if_neg (fun z9 => zw9 z9.1), Int.add_zero]; first | done | rfl) | (rw [pgu, if_neg (fun z9 => z9.2 zn9), Int.add_zero]; first | done | rfl)) (by subst hY; subst hW; subst hB; subst hpu; subst hfr; first | (rw [pgf, if_pos ⟨zw9, zn9⟩]; first | done | rfl) | (rw [pgf, if_neg (fun z9 => z9.1 zw9)]; first | done | rfl) | (rw [pgf, if_neg (fun z9 => zn9 z9.2)]; first | done | rfl) | (rw [pgf, if_neg (fun z9 => z9.1 zw9), Int.add_zero]; first | done | rfl) | (rw [pgf, if_neg (fun z9 => zn9 z9.2), Int.add_zero]; first | done | rfl))
                        · skip
                          refine hv_aload_n C 0 2 dX12_plugs_191 rfl rfl ?_
                          refine mo_geta C K 13 5 (by decide) rfl mo_hw fl_23 rfl dX12_plugs_192 ?_
                          refine hv_iload C 4 6 dX12_plugs_195 rfl ?_
                          refine hv_bipush C dX12_plugs_197 (by decide) ?_
                          refine hv_idiv C (by omega) (by omega) (by omega) (by omega) dX12_plugs_199 ?_
                          refine hv_as (((k / 12 : Nat) : Int)) (by omega) ?_
                          refine mo_iald C K 5 24 (k / 12) rfl (by omega) (by omega) (by decide) dX12_plugs_200 ?_
                          refine hv_as (S3 (k / 12)) rfl ?_
                          refine hv_iload C 5 1 dX12_plugs_201 rfl ?_
                          refine hv_ishr C (k % 12) (by omega) (by omega) (by omega) dX12_plugs_203 ?_
                          refine hv_iconst C dX12_plugs_204 ?_
                          refine hv_imsk C 1 (by decide) (by decide) dX12_plugs_205 ?_
                          refine hv_iconst C dX12_plugs_206 ?_
                          refine hv_icmp_ne C 214 dX12_plugs_207 (by decide) (by omega) (by omega) (fun h207 => ?_) (fun h207 => ?_)
                          · skip
                            refine hv_iconst C dX12_plugs_214 ?_
                            refine hv_istore C 7 [(7, .int (iz 0)), (6, .int (iz 1)), (5, .int (iz ((k % 12 : Nat) : Int))), (0, .ref a0), (1, .int (iz d)), (2, .int (iz t)), (3, .int (iz (((48 * d) + t) - 1))), (4, .int (iz ((k : Nat) : Int)))] dX12_plugs_215 (by decide) rfl ?_
                            have zw9 : (pgw E2 k) := h168
                            have zn9 : ¬ (pgn S3 k) := by intro z9; first | exact h207 z9.2 | exact absurd z9.1 (by omega)
                            refine hv_iload C 6 1 dX12_plugs_217 rfl ?_
                            refine hv_if_eq C 238 dX12_plugs_219 (by decide) (by decide) (fun h => absurd h (by decide)) (fun _ => ?_)
                            refine hv_iload C 7 0 dX12_plugs_222 rfl ?_
                            refine hv_if_eq C 238 dX12_plugs_224 (by decide) (by decide) (fun _ => ?_) (fun h => absurd h (by decide))
                            refine hv_iload C 6 1 dX12_plugs_238 rfl ?_
                            refine hv_iload C 7 0 dX12_plugs_240 rfl ?_
                            refine hv_icmp_ne C 248 dX12_plugs_242 (by decide) (by decide) (by decide) (fun _ => ?_) (fun h => absurd h (by decide))
                            refine hv_aload_n C 0 3 dX12_plugs_248 rfl rfl ?_
                            refine mo_geti C K (x := pu) 17 (by decide) rfl mo_hw fl_259 rfl dX12_plugs_249 ?_
                            refine hv_aload_n C 0 3 dX12_plugs_252 rfl rfl ?_
                            refine mo_geti C K (x := fr) 18 (by decide) rfl mo_hw fl_262 rfl dX12_plugs_253 ?_
                            refine hv_iadd C dX12_plugs_256 ?_
                            refine hv_bipush C dX12_plugs_257 (by decide) ?_
                            refine hv_icmp_ge C 294 dX12_plugs_259 (by decide) (by omega) (by omega) (fun h259 => ?_) (fun h259 => ?_)
                            · skip
                              refine hv_aload_n C 0 3 dX12_plugs_294 rfl rfl ?_
                              refine hv_dup C dX12_plugs_295 rfl ?_
                              refine mo_geti C K (x := pu) 17 (by decide) rfl mo_hw fl_259 rfl dX12_plugs_296 ?_
                              refine hv_iload C 6 1 dX12_plugs_299 rfl ?_
                              refine hv_if_eq C 308 dX12_plugs_301 (by decide) (by decide) (fun h => absurd h (by decide)) (fun _ => ?_)
                              refine hv_iconst C dX12_plugs_304 ?_
                              refine hv_goto C 309 dX12_plugs_305 (by decide) ?_
                              refine hv_iadd C dX12_plugs_309 ?_
                              refine mo_puti C K (σ2 := u2 (sA (sA (sA (sA (sA (sA (sA (sA σ 0 (ua (ua (σ 0) 17 pu) 18 fr)) 5 S3) 6 K3) 7 L3) 8 E2) 9 W) 10 B) 14 Y) 0 17 (pu + 1)) 17 (by decide) rfl mo_hw fl_259 rfl rfl (ty := .int) (by decide +kernel) rfl rfl dX12_plugs_310 ?_
                              refine mo_st (σ2 := sA (sA (sA (sA (sA (sA (sA (sA σ 0 (ua (ua (σ 0) 17 (pu + 1)) 18 fr)) 5 S3) 6 K3) 7 L3) 8 E2) 9 W) 10 B) 14 Y) (by rw [u2_sA, sA_comm (j := 14) (k := 0) (by decide), sA_comm (j := 10) (k := 0) (by decide), sA_comm (j := 9) (k := 0) (by decide), sA_comm (j := 8) (k := 0) (by decide), sA_comm (j := 7) (k := 0) (by decide), sA_comm (j := 6) (k := 0) (by decide), sA_comm (j := 5) (k := 0) (by decide), sA_sA]; rw [show (sA (sA (sA (sA (sA (sA (sA (sA σ 0 (ua (ua (σ 0) 17 pu) 18 fr)) 5 S3) 6 K3) 7 L3) 8 E2) 9 W) 10 B) 14 Y) 0 = (ua (ua (σ 0) 17 pu) 18 fr) from rfl, ua_comm (i := 18) (k := 17) (by decide), ua_ua]; first | done | rfl) ?_
                              refine hv_aload_n C 0 3 dX12_plugs_313 rfl rfl ?_
                              refine hv_dup C dX12_plugs_314 rfl ?_
                              refine mo_geti C K (x := fr) 18 (by decide) rfl mo_hw fl_262 rfl dX12_plugs_315 ?_
                              refine hv_iload C 7 0 dX12_plugs_318 rfl ?_
                              refine hv_if_eq C 327 dX12_plugs_320 (by decide) (by decide) (fun _ => ?_) (fun h => absurd h (by decide))
                              refine hv_iconst C dX12_plugs_327 ?_
                              refine hv_iadd C dX12_plugs_328 ?_
                              refine mo_puti C K (σ2 := u2 (sA (sA (sA (sA (sA (sA (sA (sA σ 0 (ua (ua (σ 0) 17 (pu + 1)) 18 fr)) 5 S3) 6 K3) 7 L3) 8 E2) 9 W) 10 B) 14 Y) 0 18 (fr + 0)) 18 (by decide) rfl mo_hw fl_262 rfl rfl (ty := .int) (by decide +kernel) rfl rfl dX12_plugs_329 ?_
                              refine mo_st (σ2 := sA (sA (sA (sA (sA (sA (sA (sA σ 0 (ua (ua (σ 0) 17 (pu + 1)) 18 (fr + 0))) 5 S3) 6 K3) 7 L3) 8 E2) 9 W) 10 B) 14 Y) (by rw [u2_sA, sA_comm (j := 14) (k := 0) (by decide), sA_comm (j := 10) (k := 0) (by decide), sA_comm (j := 9) (k := 0) (by decide), sA_comm (j := 8) (k := 0) (by decide), sA_comm (j := 7) (k := 0) (by decide), sA_comm (j := 6) (k := 0) (by decide), sA_comm (j := 5) (k := 0) (by decide), sA_sA]; rw [show (sA (sA (sA (sA (sA (sA (sA (sA σ 0 (ua (ua (σ 0) 17 (pu + 1)) 18 fr)) 5 S3) 6 K3) 7 L3) 8 E2) 9 W) 10 B) 14 Y) 0 = (ua (ua (σ 0) 17 (pu + 1)) 18 fr) from rfl, ua_ua]; first | done | rfl) ?_
                              refine hv_iinc C 4 7 [(4, .int (iz (((k : Nat) : Int) + 1))), (7, .int (iz 0)), (6, .int (iz 1)), (5, .int (iz ((k % 12 : Nat) : Int))), (0, .ref a0), (1, .int (iz d)), (2, .int (iz t)), (3, .int (iz (((48 * d) + t) - 1)))] dX12_plugs_332 rfl (by decide) rfl ?_
                              refine hv_goto C 137 dX12_plugs_335 (by decide) ?_
                              refine hv_loc [4, 5, 6, 7, 0] [(0, .ref a0), (1, .int (iz d)), (2, .int (iz t)), (3, .int (iz (((48 * d) + t) - 1))), (4, .int (iz (((k : Nat) : Int) + 1)))] rfl ?_
                              exact ih137 (k + 1) Y W B (pu + 1) (fr + 0) (by omega) (by omega) (by subst hY; subst hW; subst hB; subst hpu; subst hfr; first | (rw [pgY, if_pos ⟨zw9, zn9⟩]; first | done | rfl) | (rw [pgY, if_neg (fun z9 => zw9 z9.1)]; first | done | rfl) | (rw [pgY, if_neg (fun z9 => zn9 z9.2)]; first | done | rfl)) (by subst hY; subst hW; subst hB; subst hpu; subst hfr; first | (rw [pgW, if_neg (fun z9 => z9.1 ⟨fun _ => zn9, fun _ => zw9⟩)]; first | done | rfl) | (rw [pgW, if_neg (fun z9 => z9.1 ⟨fun a9 => absurd a9 zw9, fun a9 => absurd a9 zn9⟩)]; first | done | rfl) | (rw [pgW, if_pos ⟨fun z9 => zn9 (z9.1 zw9), by omega⟩]; first | done | rfl) | (rw [pgW, if_pos ⟨fun z9 => zw9 (z9.2 zn9), by omega⟩]; first | done | rfl) | (rw [pgW, if_neg (fun z9 => by have z8 := z9.2; omega)]; first | done | rfl)) (by subst hY; subst hW; subst hB; subst hpu; subst hfr; first | (rw [pgB, if_neg (fun z9 => z9.1 ⟨fun _ => zn9, fun _ => zw9⟩)]; first | done | rfl) | (rw [pgB, if_neg (fun z9 => z9.1 ⟨fun a9 => absurd a9 zw9, fun a9 => absurd a9 zn9⟩)]; first | done | rfl) | (rw [pgB, if_pos ⟨fun z9 => zn9 (z9.1 zw9), by omega⟩, if_neg zn9]; first | done | rfl) | (rw [pgB, if_pos ⟨fun z9 => zw9 (z9.2 zn9), by omega⟩, if_pos zn9]; first | done | rfl) | (rw [pgB, if_neg (fun z9 => by have z8 := z9.2; omega)]; first | done | rfl)) (by subst hY; subst hW; subst hB; subst hpu; subst hfr; first | (rw [pgu, if_pos ⟨zw9, zn9⟩]; first | done | rfl) | (rw [pgu, if_neg (fun z9 => zw9 z9.1)]; first | done | rfl) | (rw [pgu, if_neg (fun z9 => z9.2 zn9)]; first | done | rfl) | (rw [pgu, if_neg (fun z9 => zw9 z9.1), Int.add_zero]; first | done | rfl) | (rw [pgu, if_neg (fun z9 => z9.2 zn9), Int.add_zero]; first | done | rfl)) (by subst hY; subst hW; subst hB; subst hpu; subst hfr; first | (rw [pgf, if_pos ⟨zw9, zn9⟩]; first | done | rfl) | (rw [pgf, if_neg (fun z9 => z9.1 zw9)]; first | done | rfl) | (rw [pgf, if_neg (fun z9 => zn9 z9.2)]; first | done | rfl) | (rw [pgf, if_neg (fun z9 => z9.1 zw9), Int.add_zero]; first | done | rfl) | (rw [pgf, if_neg (fun z9 => zn9 z9.2), Int.add_zero]; first | done | rfl))
                            · skip
                              refine hv_aload_n C 0 3 dX12_plugs_262 rfl rfl ?_
                              refine mo_geta C K 19 9 (by decide) rfl mo_hw fl_35 rfl dX12_plugs_263 ?_
                              refine hv_aload_n C 0 3 dX12_plugs_266 rfl rfl ?_
                              refine mo_geti C K (x := pu) 17 (by decide) rfl mo_hw fl_259 rfl dX12_plugs_267 ?_
                              refine hv_aload_n C 0 3 dX12_plugs_270 rfl rfl ?_
                              refine mo_geti C K (x := fr) 18 (by decide) rfl mo_hw fl_262 rfl dX12_plugs_271 ?_
                              refine hv_iadd C dX12_plugs_274 ?_
                              refine hv_iload C 5 2 dX12_plugs_275 rfl ?_
                              refine mo_iast C K 9 7 (((pu + fr) : Int)).toNat rfl (moW_set9 _ _ _ _ _ _) (by omega) (by omega) (by decide) dX12_plugs_277 ?_
                              refine mo_st (σ2 := sA (sA (sA (sA (sA (sA (sA (sA σ 0 (ua (ua (σ 0) 17 pu) 18 fr)) 5 S3) 6 K3) 7 L3) 8 E2) 9 (ua W (((pu + fr) : Int)).toNat ((k % 12 : Nat) : Int))) 10 B) 14 Y) (by rw [u2_sA, sA_comm (j := 14) (k := 9) (by decide), sA_comm (j := 10) (k := 9) (by decide), sA_sA]; first | done | rfl) ?_
                              refine hv_aload_n C 0 3 dX12_plugs_278 rfl rfl ?_
                              refine mo_geta C K 20 10 (by decide) rfl mo_hw fl_38 rfl dX12_plugs_279 ?_
                              refine hv_aload_n C 0 3 dX12_plugs_282 rfl rfl ?_
                              refine mo_geti C K (x := pu) 17 (by decide) rfl mo_hw fl_259 rfl dX12_plugs_283 ?_
                              refine hv_aload_n C 0 3 dX12_plugs_286 rfl rfl ?_
                              refine mo_geti C K (x := fr) 18 (by decide) rfl mo_hw fl_262 rfl dX12_plugs_287 ?_
                              refine hv_iadd C dX12_plugs_290 ?_
                              refine hv_iload C 7 0 dX12_plugs_291 rfl ?_
                              refine mo_zast C K 10 7 (((pu + fr) : Int)).toNat false rfl (moW_set10 _ _ _ _ _ _) (by omega) (by omega) (by decide) dX12_plugs_293 ?_
                              refine mo_st (σ2 := sA (sA (sA (sA (sA (sA (sA (sA σ 0 (ua (ua (σ 0) 17 pu) 18 fr)) 5 S3) 6 K3) 7 L3) 8 E2) 9 (ua W (((pu + fr) : Int)).toNat ((k % 12 : Nat) : Int))) 10 (ua B (((pu + fr) : Int)).toNat (xb false))) 14 Y) (by rw [u2_sA, sA_comm (j := 14) (k := 10) (by decide), sA_sA]; first | done | rfl) ?_
                              refine hv_aload_n C 0 3 dX12_plugs_294 rfl rfl ?_
                              refine hv_dup C dX12_plugs_295 rfl ?_
                              refine mo_geti C K (x := pu) 17 (by decide) rfl mo_hw fl_259 rfl dX12_plugs_296 ?_
                              refine hv_iload C 6 1 dX12_plugs_299 rfl ?_
                              refine hv_if_eq C 308 dX12_plugs_301 (by decide) (by decide) (fun h => absurd h (by decide)) (fun _ => ?_)
                              refine hv_iconst C dX12_plugs_304 ?_
                              refine hv_goto C 309 dX12_plugs_305 (by decide) ?_
                              refine hv_iadd C dX12_plugs_309 ?_
                              refine mo_puti C K (σ2 := u2 (sA (sA (sA (sA (sA (sA (sA (sA σ 0 (ua (ua (σ 0) 17 pu) 18 fr)) 5 S3) 6 K3) 7 L3) 8 E2) 9 (ua W (((pu + fr) : Int)).toNat ((k % 12 : Nat) : Int))) 10 (ua B (((pu + fr) : Int)).toNat (xb false))) 14 Y) 0 17 (pu + 1)) 17 (by decide) rfl mo_hw fl_259 rfl rfl (ty := .int) (by decide +kernel) rfl rfl dX12_plugs_310 ?_
                              refine mo_st (σ2 := sA (sA (sA (sA (sA (sA (sA (sA σ 0 (ua (ua (σ 0) 17 (pu + 1)) 18 fr)) 5 S3) 6 K3) 7 L3) 8 E2) 9 (ua W (((pu + fr) : Int)).toNat ((k % 12 : Nat) : Int))) 10 (ua B (((pu + fr) : Int)).toNat (xb false))) 14 Y) (by rw [u2_sA, sA_comm (j := 14) (k := 0) (by decide), sA_comm (j := 10) (k := 0) (by decide), sA_comm (j := 9) (k := 0) (by decide), sA_comm (j := 8) (k := 0) (by decide), sA_comm (j := 7) (k := 0) (by decide), sA_comm (j := 6) (k := 0) (by decide), sA_comm (j := 5) (k := 0) (by decide), sA_sA]; rw [show (sA (sA (sA (sA (sA (sA (sA (sA σ 0 (ua (ua (σ 0) 17 pu) 18 fr)) 5 S3) 6 K3) 7 L3) 8 E2) 9 (ua W (((pu + fr) : Int)).toNat ((k % 12 : Nat) : Int))) 10 (ua B (((pu + fr) : Int)).toNat (xb false))) 14 Y) 0 = (ua (ua (σ 0) 17 pu) 18 fr) from rfl, ua_comm (i := 18) (k := 17) (by decide), ua_ua]; first | done | rfl) ?_
                              refine hv_aload_n C 0 3 dX12_plugs_313 rfl rfl ?_
                              refine hv_dup C dX12_plugs_314 rfl ?_
                              refine mo_geti C K (x := fr) 18 (by decide) rfl mo_hw fl_262 rfl dX12_plugs_315 ?_
                              refine hv_iload C 7 0 dX12_plugs_318 rfl ?_
                              refine hv_if_eq C 327 dX12_plugs_320 (by decide) (by decide) (fun _ => ?_) (fun h => absurd h (by decide))
                              refine hv_iconst C dX12_plugs_327 ?_
                              refine hv_iadd C dX12_plugs_328 ?_
                              refine mo_puti C K (σ2 := u2 (sA (sA (sA (sA (sA (sA (sA (sA σ 0 (ua (ua (σ 0) 17 (pu + 1)) 18 fr)) 5 S3) 6 K3) 7 L3) 8 E2) 9 (ua W (((pu + fr) : Int)).toNat ((k % 12 : Nat) : Int))) 10 (ua B (((pu + fr) : Int)).toNat (xb false))) 14 Y) 0 18 (fr + 0)) 18 (by decide) rfl mo_hw fl_262 rfl rfl (ty := .int) (by decide +kernel) rfl rfl dX12_plugs_329 ?_
                              refine mo_st (σ2 := sA (sA (sA (sA (sA (sA (sA (sA σ 0 (ua (ua (σ 0) 17 (pu + 1)) 18 (fr + 0))) 5 S3) 6 K3) 7 L3) 8 E2) 9 (ua W (((pu + fr) : Int)).toNat ((k % 12 : Nat) : Int))) 10 (ua B (((pu + fr) : Int)).toNat (xb false))) 14 Y) (by rw [u2_sA, sA_comm (j := 14) (k := 0) (by decide), sA_comm (j := 10) (k := 0) (by decide), sA_comm (j := 9) (k := 0) (by decide), sA_comm (j := 8) (k := 0) (by decide), sA_comm (j := 7) (k := 0) (by decide), sA_comm (j := 6) (k := 0) (by decide), sA_comm (j := 5) (k := 0) (by decide), sA_sA]; rw [show (sA (sA (sA (sA (sA (sA (sA (sA σ 0 (ua (ua (σ 0) 17 (pu + 1)) 18 fr)) 5 S3) 6 K3) 7 L3) 8 E2) 9 (ua W (((pu + fr) : Int)).toNat ((k % 12 : Nat) : Int))) 10 (ua B (((pu + fr) : Int)).toNat (xb false))) 14 Y) 0 = (ua (ua (σ 0) 17 (pu + 1)) 18 fr) from rfl, ua_ua]; first | done | rfl) ?_
                              refine hv_iinc C 4 7 [(4, .int (iz (((k : Nat) : Int) + 1))), (7, .int (iz 0)), (6, .int (iz 1)), (5, .int (iz ((k % 12 : Nat) : Int))), (0, .ref a0), (1, .int (iz d)), (2, .int (iz t)), (3, .int (iz (((48 * d) + t) - 1)))] dX12_plugs_332 rfl (by decide) rfl ?_
                              refine hv_goto C 137 dX12_plugs_335 (by decide) ?_
                              refine hv_loc [4, 5, 6, 7, 0] [(0, .ref a0), (1, .int (iz d)), (2, .int (iz t)), (3, .int (iz (((48 * d) + t) - 1))), (4, .int (iz (((k : Nat) : Int) + 1)))] rfl ?_
                              exact ih137 (k + 1) Y (ua W (((pu + fr) : Int)).toNat ((k % 12 : Nat) : Int)) (ua B (((pu + fr) : Int)).toNat (xb false)) (pu + 1) (fr + 0) (by omega) (by omega) (by subst hY; subst hW; subst hB; subst hpu; subst hfr; first | (rw [pgY, if_pos ⟨zw9, zn9⟩]; first | done | rfl) | (rw [pgY, if_neg (fun z9 => zw9 z9.1)]; first | done | rfl) | (rw [pgY, if_neg (fun z9 => zn9 z9.2)]; first | done | rfl)) (by subst hY; subst hW; subst hB; subst hpu; subst hfr; first | (rw [pgW, if_neg (fun z9 => z9.1 ⟨fun _ => zn9, fun _ => zw9⟩)]; first | done | rfl) | (rw [pgW, if_neg (fun z9 => z9.1 ⟨fun a9 => absurd a9 zw9, fun a9 => absurd a9 zn9⟩)]; first | done | rfl) | (rw [pgW, if_pos ⟨fun z9 => zn9 (z9.1 zw9), by omega⟩]; first | done | rfl) | (rw [pgW, if_pos ⟨fun z9 => zw9 (z9.2 zn9), by omega⟩]; first | done | rfl) | (rw [pgW, if_neg (fun z9 => by have z8 := z9.2; omega)]; first | done | rfl)) (by subst hY; subst hW; subst hB; subst hpu; subst hfr; first | (rw [pgB, if_neg (fun z9 => z9.1 ⟨fun _ => zn9, fun _ => zw9⟩)]; first | done | rfl) | (rw [pgB, if_neg (fun z9 => z9.1 ⟨fun a9 => absurd a9 zw9, fun a9 => absurd a9 zn9⟩)]; first | done | rfl) | (rw [pgB, if_pos ⟨fun z9 => zn9 (z9.1 zw9), by omega⟩, if_neg zn9]; first | done | rfl) | (rw [pgB, if_pos ⟨fun z9 => zw9 (z9.2 zn9), by omega⟩, if_pos zn9]; first | done | rfl) | (rw [pgB, if_neg (fun z9 => by have z8 := z9.2; omega)]; first | done | rfl)) (by subst hY; subst hW; subst hB; subst hpu; subst hfr; first | (rw [pgu, if_pos ⟨zw9, zn9⟩]; first | done | rfl) | (rw [pgu, if_neg (fun z9 => zw9 z9.1)]; first | done | rfl) | (rw [pgu, if_neg (fun z9 => z9.2 zn9)]; first | done | rfl) | (rw [pgu, if_neg (fun z9 => zw9 z9.1), Int.add_zero]; first | done | rfl) | (rw [pgu, if_neg (fun z9 => z9.2 zn9), Int.add_zero]; first | done | rfl)) (by subst hY; subst hW; subst hB; subst hpu; subst hfr; first | (rw [pgf, if_pos ⟨zw9, zn9⟩]; first | done | rfl) | (rw [pgf, if_neg (fun z9 => z9.1 zw9)]; first | done | rfl) | (rw [pgf, if_neg (fun z9 => zn9 z9.2)]; first | done | rfl) | (rw [pgf, if_neg (fun z9 => z9.1 zw9), Int.add_zero]; first | done | rfl) | (rw [pgf, if_neg (fun z9 => zn9 z9.2), Int.add_zero]; first | done | rfl))
                          · skip
                            refine hv_iconst C dX12_plugs_210 ?_
                            refine hv_goto C 215 dX12_plugs_211 (by decide) ?_
                            refine hv_istore C 7 [(7, .int (iz 1)), (6, .int (iz 1)), (5, .int (iz ((k % 12 : Nat) : Int))), (0, .ref a0), (1, .int (iz d)), (2, .int (iz t)), (3, .int (iz (((48 * d) + t) - 1))), (4, .int (iz ((k : Nat) : Int)))] dX12_plugs_215 (by decide) rfl ?_
                            have zw9 : (pgw E2 k) := h168
                            have zn9 : (pgn S3 k) := ⟨h188, h207⟩
                            refine hv_iload C 6 1 dX12_plugs_217 rfl ?_
                            refine hv_if_eq C 238 dX12_plugs_219 (by decide) (by decide) (fun h => absurd h (by decide)) (fun _ => ?_)
                            refine hv_iload C 7 0 dX12_plugs_222 rfl ?_
                            refine hv_if_eq C 238 dX12_plugs_224 (by decide) (by decide) (fun h => absurd h (by decide)) (fun _ => ?_)
                            refine hv_aload_n C 0 3 dX12_plugs_227 rfl rfl ?_
                            refine mo_geta C K 24 14 (by decide) rfl mo_hw fl_50 rfl dX12_plugs_228 ?_
                            refine hv_iload C 5 2 dX12_plugs_231 rfl ?_
                            refine hv_dup2 C dX12_plugs_233 rfl rfl ?_
                            refine mo_iald C K 14 12 (k % 12) rfl (by omega) (by omega) (by decide) dX12_plugs_234 ?_
                            refine hv_as (Y (k % 12)) rfl ?_
                            refine hv_iconst C dX12_plugs_235 ?_
                            refine hv_iadd C dX12_plugs_236 ?_
                            refine mo_iast C K 14 12 (k % 12) rfl (moW_set14 _ _ _ _ _ _) (by omega) (by omega) (by decide) dX12_plugs_237 ?_
                            refine mo_st (σ2 := sA (sA (sA (sA (sA (sA (sA (sA σ 0 (ua (ua (σ 0) 17 pu) 18 fr)) 5 S3) 6 K3) 7 L3) 8 E2) 9 W) 10 B) 14 (ua Y (k % 12) ((Y (k % 12)) + 1))) (by rw [u2_sA, sA_sA]; first | done | rfl) ?_
                            refine hv_iload C 6 1 dX12_plugs_238 rfl ?_
                            refine hv_iload C 7 0 dX12_plugs_240 rfl ?_
                            refine hv_icmp_ne C 248 dX12_plugs_242 (by decide) (by decide) (by decide) (fun h => absurd h (by decide)) (fun _ => ?_)
                            refine hv_goto C 332 dX12_plugs_245 (by decide) ?_
                            refine hv_iinc C 4 7 [(4, .int (iz (((k : Nat) : Int) + 1))), (7, .int (iz 1)), (6, .int (iz 1)), (5, .int (iz ((k % 12 : Nat) : Int))), (0, .ref a0), (1, .int (iz d)), (2, .int (iz t)), (3, .int (iz (((48 * d) + t) - 1)))] dX12_plugs_332 rfl (by decide) rfl ?_
                            refine hv_goto C 137 dX12_plugs_335 (by decide) ?_
                            refine hv_loc [4, 5, 6, 7, 0] [(0, .ref a0), (1, .int (iz d)), (2, .int (iz t)), (3, .int (iz (((48 * d) + t) - 1))), (4, .int (iz (((k : Nat) : Int) + 1)))] rfl ?_
                            exact ih137 (k + 1) (ua Y (k % 12) ((Y (k % 12)) + 1)) W B pu fr (by omega) (by omega) (by subst hY; subst hW; subst hB; subst hpu; subst hfr; first | (rw [pgY, if_pos ⟨zw9, zn9⟩]; first | done | rfl) | (rw [pgY, if_neg (fun z9 => zw9 z9.1)]; first | done | rfl) | (rw [pgY, if_neg (fun z9 => zn9 z9.2)]; first | done | rfl)) (by subst hY; subst hW; subst hB; subst hpu; subst hfr; first | (rw [pgW, if_neg (fun z9 => z9.1 ⟨fun _ => zn9, fun _ => zw9⟩)]; first | done | rfl) | (rw [pgW, if_neg (fun z9 => z9.1 ⟨fun a9 => absurd a9 zw9, fun a9 => absurd a9 zn9⟩)]; first | done | rfl) | (rw [pgW, if_pos ⟨fun z9 => zn9 (z9.1 zw9), by omega⟩]; first | done | rfl) | (rw [pgW, if_pos ⟨fun z9 => zw9 (z9.2 zn9), by omega⟩]; first | done | rfl) | (rw [pgW, if_neg (fun z9 => by have z8 := z9.2; omega)]; first | done | rfl)) (by subst hY; subst hW; subst hB; subst hpu; subst hfr; first | (rw [pgB, if_neg (fun z9 => z9.1 ⟨fun _ => zn9, fun _ => zw9⟩)]; first | done | rfl) | (rw [pgB, if_neg (fun z9 => z9.1 ⟨fun a9 => absurd a9 zw9, fun a9 => absurd a9 zn9⟩)]; first | done | rfl) | (rw [pgB, if_pos ⟨fun z9 => zn9 (z9.1 zw9), by omega⟩, if_neg zn9]; first | done | rfl) | (rw [pgB, if_pos ⟨fun z9 => zw9 (z9.2 zn9), by omega⟩, if_pos zn9]; first | done | rfl) | (rw [pgB, if_neg (fun z9 => by have z8 := z9.2; omega)]; first | done | rfl)) (by subst hY; subst hW; subst hB; subst hpu; subst hfr; first | (rw [pgu, if_pos ⟨zw9, zn9⟩]; first | done | rfl) | (rw [pgu, if_neg (fun z9 => zw9 z9.1)]; first | done | rfl) | (rw [pgu, if_neg (fun z9 => z9.2 zn9)]; first | done | rfl) | (rw [pgu, if_neg (fun z9 => zw9 z9.1), Int.add_zero]; first | done | rfl) | (rw [pgu, if_neg (fun z9 => z9.2 zn9), Int.add_zero]; first | done | rfl)) (by subst hY; subst hW; subst hB; subst hpu; subst hfr; first | (rw [pgf, if_pos ⟨zw9, zn9⟩]; first | done | rfl) | (rw [pgf, if_neg (fun z9 => z9.1 zw9)]; first | done | rfl) | (rw [pgf, if_neg (fun z9 => zn9 z9.2)]; first | done | rfl) | (rw [pgf, if_neg (fun z9 => z9.1 zw9), Int.add_zero]; first | done | rfl) | (rw [pgf, if_neg (fun z9 => zn9 z9.2), Int.add_zero]; first | done | rfl))
                refine hv_loc [1, 2, 3, 4, 0] [(0, .ref a0), (1, .int (iz d)), (2, .int (iz t)), (3, .int (iz (((48 * d) + t) - 1))), (4, .int (iz 0))] rfl ?_
                refine mo_st (σ2 := sA (sA (sA (sA (sA (sA (sA σ 0 (ua (ua (σ 0) 17 0) 18 0)) 5 S3) 6 K3) 7 L3) 8 E2) 9 (σ 9)) 14 Y1) ((sA_id (sA (sA (sA (sA (sA (sA σ 0 (ua (ua (σ 0) 17 0) 18 0)) 5 S3) 6 K3) 7 L3) 8 E2) 14 Y1) 9).symm.trans (by rw [sA_comm (j := 14) (k := 9) (by decide)]; first | done | rfl)) ?_
                refine mo_st (σ2 := sA (sA (sA (sA (sA (sA (sA (sA σ 0 (ua (ua (σ 0) 17 0) 18 0)) 5 S3) 6 K3) 7 L3) 8 E2) 9 (σ 9)) 10 (σ 10)) 14 Y1) ((sA_id (sA (sA (sA (sA (sA (sA (sA σ 0 (ua (ua (σ 0) 17 0) 18 0)) 5 S3) 6 K3) 7 L3) 8 E2) 9 (σ 9)) 14 Y1) 10).symm.trans (by rw [sA_comm (j := 14) (k := 10) (by decide)]; first | done | rfl)) ?_
                exact L137 _ 0 Y1 (σ 9) (σ 10) 0 0 (Nat.lt_succ_self _) (by omega) rfl rfl rfl rfl rfl
              · skip
                refine hv_aload_n C 0 0 dX12_plugs_120 rfl rfl ?_
                refine mo_geta C K 24 14 (by decide) rfl mo_hw fl_50 rfl dX12_plugs_121 ?_
                refine hv_iload C 4 4 dX12_plugs_124 rfl ?_
                refine hv_iconst C dX12_plugs_126 ?_
                refine mo_iast C K 14 12 w rfl (moW_set14 _ _ _ _ _ _) (by omega) (by omega) (by decide) dX12_plugs_127 ?_
                refine mo_st (σ2 := sA (sA (sA (sA (sA (sA σ 0 (ua (ua (σ 0) 17 0) 18 0)) 5 S3) 6 K3) 7 L3) 8 E2) 14 (ua Y1 w 0)) (by rw [u2_sA, sA_sA]; first | done | rfl) ?_
                refine hv_iinc C 4 4 [(4, .int (iz (((w : Nat) : Int) + 1))), (0, .ref a0), (1, .int (iz d)), (2, .int (iz t)), (3, .int (iz (((48 * d) + t) - 1)))] dX12_plugs_128 rfl (by decide) rfl ?_
                refine hv_goto C 113 dX12_plugs_131 (by decide) ?_
                refine hv_loc [1, 2, 3, 4, 0] [(0, .ref a0), (1, .int (iz d)), (2, .int (iz t)), (3, .int (iz (((48 * d) + t) - 1))), (4, .int (iz (((w : Nat) : Int) + 1)))] rfl ?_
                exact ih113 (w + 1) (ua Y1 w 0) (by omega) (by omega) (by rw [hY1]; rfl)
          refine hv_loc [2, 3, 4, 1, 0] [(0, .ref a0), (1, .int (iz d)), (2, .int (iz t)), (3, .int (iz (((48 * d) + t) - 1))), (4, .int (iz 0))] rfl ?_
          refine mo_st (σ2 := sA (sA (sA (sA (sA (sA σ 0 (ua (ua (σ 0) 17 0) 18 0)) 5 S3) 6 K3) 7 L3) 8 E2) 14 (σ 14)) ((sA_id (sA (sA (sA (sA (sA σ 0 (ua (ua (σ 0) 17 0) 18 0)) 5 S3) 6 K3) 7 L3) 8 E2) 14).symm) ?_
          exact L113 _ 0 (σ 14) (Nat.lt_succ_self _) (by omega) rfl
        · skip
          refine hv_aload_n C 0 1 dX12_plugs_34 rfl rfl ?_
          refine hv_iload_n C 3 0 dX12_plugs_35 rfl rfl ?_
          refine hv_bipush C dX12_plugs_36 (by decide) ?_
          refine hv_idiv C (by omega) (by omega) (by omega) (by omega) dX12_plugs_38 ?_
          refine hv_iload_n C 3 0 dX12_plugs_39 rfl rfl ?_
          refine hv_bipush C dX12_plugs_40 (by decide) ?_
          refine hv_irem C (by omega) (by omega) (by omega) (by omega) dX12_plugs_42 ?_
          refine hv_bipush C dX12_plugs_43 (by decide) ?_
          refine mo_call [.int (iz ((((48 * d) + t) - 1) / 48)), .int (iz ((((48 * d) + t) - 1) % 48)), .int (iz 23)] [] C K (k_strung l (sA σ 8 E1) ((((48 * d) + t) - 1) / 48) ((((48 * d) + t) - 1) % 48) 23 (by refine rg_sA hσ ?_; rw [hh3]; exact zt_in (fun _ => hσ _ _) _) hc hs hh hl hwi (by omega) (by omega) (by omega) (show ∀ i, inI (ms (σ 1) (σ 7) (σ 1 1).toNat i) from (ms_in (L := σ 7) hc hwi (fun i => hσ 7 i) h70).1)) ck_strung (by decide) rfl (Nat.le_of_ble_eq_true rfl) dX12_plugs_45 ?_
          refine mo_st (σ2 := sA (sA (sA (sA σ 5 (sgr (σ 1) (σ 7) (σ 6) (σ 5) ((((48 * d) + t) - 1) / 48) ((((48 * d) + t) - 1) % 48) 23).1) 6 (sgr (σ 1) (σ 7) (σ 6) (σ 5) ((((48 * d) + t) - 1) / 48) ((((48 * d) + t) - 1) % 48) 23).2) 7 (ms (σ 1) (σ 7) ((σ 1) 1).toNat)) 8 E1) (by first | exact s5678 _ _ _ _ _ _ _ _ | exact s8_5 _ _ _ _ _) ?_
          obtain ⟨S1, eS1⟩ : ∃ xq9 : Nat → Int, xq9 = (sgr (σ 1) (σ 7) (σ 6) (σ 5) ((((48 * d) + t) - 1) / 48) ((((48 * d) + t) - 1) % 48) 23).1 := ⟨_, rfl⟩
          refine mo_st (σ2 := sA (sA (sA (sA σ 5 S1) 6 (sgr (σ 1) (σ 7) (σ 6) (σ 5) ((((48 * d) + t) - 1) / 48) ((((48 * d) + t) - 1) % 48) 23).2) 7 (ms (σ 1) (σ 7) ((σ 1) 1).toNat)) 8 E1) (by rw [eS1]) ?_
          obtain ⟨K1, eK1⟩ : ∃ xq9 : Nat → Int, xq9 = (sgr (σ 1) (σ 7) (σ 6) (σ 5) ((((48 * d) + t) - 1) / 48) ((((48 * d) + t) - 1) % 48) 23).2 := ⟨_, rfl⟩
          refine mo_st (σ2 := sA (sA (sA (sA σ 5 S1) 6 K1) 7 (ms (σ 1) (σ 7) ((σ 1) 1).toNat)) 8 E1) (by rw [eK1]) ?_
          obtain ⟨L1, eL1⟩ : ∃ xq9 : Nat → Int, xq9 = (ms (σ 1) (σ 7) ((σ 1) 1).toNat) := ⟨_, rfl⟩
          refine mo_st (σ2 := sA (sA (sA (sA σ 5 S1) 6 K1) 7 L1) 8 E1) (by rw [eL1]) ?_
          have zA1 : pgA σ d t = (S1, K1) := by rw [eS1, eK1]; unfold pgA; rw [show pgP d t = 48 * d + t - 1 from rfl]
          have zS1 : ∀ q9 : Nat, q9 < 24 → -1 ≤ S1 q9 ∧ S1 q9 ≤ 4095 := by rw [eS1]; exact fun q9 z9 => sgr_24 hc _ _ _ q9 z9
          have zrS1 : ∀ i, inI (S1 i) := by rw [eS1]; exact (sgr_in hc _ _ _ (fun _ => hσ _ _) (fun _ => hσ _ _)).1
          have zrK1 : ∀ i, inI (K1 i) := by rw [eK1]; exact (sgr_in hc _ _ _ (fun _ => hσ _ _) (fun _ => hσ _ _)).2
          have zL1 : (∀ i, inI (L1 i)) ∧ L1 0 = 0 := by rw [eL1]; exact ms_in (L := σ 7) hc hwi (fun i => hσ 7 i) h70
          refine hv_iconst C dX12_plugs_48 ?_
          refine hv_istore C 4 [(4, .int (iz 0)), (3, .int (iz (((48 * d) + t) - 1))), (0, .ref a0), (1, .int (iz d)), (2, .int (iz t))] dX12_plugs_49 (by decide) rfl ?_
          have L51 : ∀ (f : Nat) (h2 : Nat) (E3 : Nat → Int), 24 - h2 < f → (h2 ≤ 24) → (E3 = ah9 E1 S1 h2) → hvV p l e { frames := 10, cells := 0, slots := 0, locals := 254 } s m args below meth c 8 (moR a0) 0 0 (MQ below (moQ D cI cZ a0 none (sA (sA (sA (sA (sA (sA (sA (sA σ 0 (ua (ua (σ 0) 17 (pgu (pgE σ d t) (pgS σ d t).1 288)) 18 (pgf (pgE σ d t) (pgS σ d t).1 288))) 5 (pgS σ d t).1) 6 (pgS σ d t).2) 7 (ms (σ 1) (pgL σ d t) (σ 1 1).toNat)) 8 (pgE σ d t)) 9 (pgW (pgE σ d t) (pgS σ d t).1 (σ 9) 288)) 10 (pgB (pgE σ d t) (pgS σ d t).1 (σ 10) 288)) 14 (pgY (pgE σ d t) (pgS σ d t).1 (zt (σ 14) 12) 288))) args s 0 0 (moR a0)) (moI D cI cZ a0 s.heap (sA (sA (sA (sA σ 5 S1) 6 K1) 7 L1) 8 E3)) 51 [(0, .ref a0), (1, .int (iz d)), (2, .int (iz t)), (3, .int (iz (((48 * d) + t) - 1))), (4, .int (iz ((h2 : Nat) : Int)))] [] := by
            intro f
            induction f with
            | zero => intro _ _ hm; exact absurd hm (Nat.not_lt_zero _)
            | succ f ih51 =>
              intro h2 E3 hm51 hh2 hE3
              have zS1h := fun z9 => zS1 h2 z9
              refine hv_iload C 4 4 dX12_plugs_51 rfl ?_
              refine hv_bipush C dX12_plugs_53 (by decide) ?_
              refine hv_icmp_ge C 92 dX12_plugs_55 (by decide) (by omega) (by omega) (fun h55 => ?_) (fun h55 => ?_)
              · skip
                obtain ⟨S2, eS2⟩ : ∃ xq9 : Nat → Int, xq9 = S1 := ⟨_, rfl⟩
                refine mo_st (σ2 := sA (sA (sA (sA σ 5 S2) 6 K1) 7 L1) 8 E3) (by rw [eS2]) ?_
                obtain ⟨K2, eK2⟩ : ∃ xq9 : Nat → Int, xq9 = K1 := ⟨_, rfl⟩
                refine mo_st (σ2 := sA (sA (sA (sA σ 5 S2) 6 K2) 7 L1) 8 E3) (by rw [eK2]) ?_
                obtain ⟨L2, eL2⟩ : ∃ xq9 : Nat → Int, xq9 = L1 := ⟨_, rfl⟩
                refine mo_st (σ2 := sA (sA (sA (sA σ 5 S2) 6 K2) 7 L2) 8 E3) (by rw [eL2]) ?_
                obtain ⟨E2, eE2⟩ : ∃ xq9 : Nat → Int, xq9 = E3 := ⟨_, rfl⟩
                refine mo_st (σ2 := sA (sA (sA (sA σ 5 S2) 6 K2) 7 L2) 8 E2) (by rw [eE2]) ?_
                have zP9 : pgP d t = 48 * d + t - 1 := rfl
                have zE : pgE σ d t = E2 := by rw [eE2]; unfold pgE; first | (rw [if_pos (by omega), zA1, hE3, show h2 = 24 by omega, hh3, show h9 = 24 by omega]; done) | (rw [if_neg (by omega), hh3, show h9 = 24 by omega]; done)
                have zQ : pgQ σ d t = (S2, K2) := by rw [eS2, eK2]; unfold pgQ; first | (rw [if_pos (by omega), zA1]; done) | (rw [if_neg (by omega)]; done)
                have zL : pgL σ d t = L2 := by rw [eL2]; unfold pgL; first | (rw [if_pos (by omega), eL1]; done) | (rw [if_neg (by omega)]; done)
                have zrS2 : ∀ i, inI (S2 i) := by rw [eS2]; first | exact zrS1 | exact fun _ => hσ _ _
                have zrK2 : ∀ i, inI (K2 i) := by rw [eK2]; first | exact zrK1 | exact fun _ => hσ _ _
                have zL2 : (∀ i, inI (L2 i)) ∧ L2 0 = 0 := by rw [eL2]; first | exact zL1 | exact ⟨fun _ => hσ _ _, h70⟩
                have zL2r := zL2.1
                have zrE2 : ∀ i, inI (E2 i) := by rw [eE2]; first | (rw [hE3]; exact ah9_in (by rw [hh3]; exact zt_in (fun _ => hσ _ _) _) zrS1 _) | (rw [hh3]; exact zt_in (fun _ => hσ _ _) _)
                refine hv_aload_n C 0 0 dX12_plugs_92 rfl rfl ?_
                refine hv_iload_n C 1 1 dX12_plugs_93 rfl rfl ?_
                refine hv_iload_n C 2 2 dX12_plugs_94 rfl rfl ?_
                refine hv_bipush C dX12_plugs_95 (by decide) ?_
                refine mo_call [.int (iz d), .int (iz t), .int (iz 23)] [] C K (k_strung l (sA (sA (sA (sA σ 5 S2) 6 K2) 7 L2) 8 E2) d t 23 (by repeat (first | assumption | refine rg_sA ?_ ?_ | refine in_ua ?_ (by omega) | exact fun _ => hσ _ _)) hc hs hh hl hwi (by omega) (by omega) (by omega) (ms_in hc hwi zL2.1 zL2.2).1) ck_strung (by decide) rfl (Nat.le_of_ble_eq_true rfl) dX12_plugs_97 ?_
                refine mo_st (σ2 := sA (sA (sA (sA σ 5 (sgr (σ 1) L2 K2 S2 d t 23).1) 6 (sgr (σ 1) L2 K2 S2 d t 23).2) 7 (ms (σ 1) L2 ((σ 1) 1).toNat)) 8 E2) (by first | exact s5678 _ _ _ _ _ _ _ _ | exact s8_5 _ _ _ _ _) ?_
                obtain ⟨S3, eS3⟩ : ∃ xq9 : Nat → Int, xq9 = (sgr (σ 1) L2 K2 S2 d t 23).1 := ⟨_, rfl⟩
                refine mo_st (σ2 := sA (sA (sA (sA σ 5 S3) 6 (sgr (σ 1) L2 K2 S2 d t 23).2) 7 (ms (σ 1) L2 ((σ 1) 1).toNat)) 8 E2) (by rw [eS3]) ?_
                obtain ⟨K3, eK3⟩ : ∃ xq9 : Nat → Int, xq9 = (sgr (σ 1) L2 K2 S2 d t 23).2 := ⟨_, rfl⟩
                refine mo_st (σ2 := sA (sA (sA (sA σ 5 S3) 6 K3) 7 (ms (σ 1) L2 ((σ 1) 1).toNat)) 8 E2) (by rw [eK3]) ?_
                obtain ⟨L3, eL3⟩ : ∃ xq9 : Nat → Int, xq9 = (ms (σ 1) L2 ((σ 1) 1).toNat) := ⟨_, rfl⟩
                refine mo_st (σ2 := sA (sA (sA (sA σ 5 S3) 6 K3) 7 L3) 8 E2) (by rw [eL3]) ?_
                have zS3 : pgS σ d t = (S3, K3) := by rw [eS3, eK3]; unfold pgS; rw [zL, zQ]
                have zS3h : ∀ q9 : Nat, q9 < 24 → -1 ≤ S3 q9 ∧ S3 q9 ≤ 4095 := by rw [eS3]; exact fun q9 z9 => sgr_24 hc _ _ _ q9 z9
                refine hv_aload_n C 0 0 dX12_plugs_100 rfl rfl ?_
                refine hv_iconst C dX12_plugs_101 ?_
                refine mo_puti C K (σ2 := u2 (sA (sA (sA (sA σ 5 S3) 6 K3) 7 L3) 8 E2) 0 17 0) 17 (by decide) rfl mo_hw fl_259 rfl rfl (ty := .int) (by decide +kernel) rfl rfl dX12_plugs_102 ?_
                refine mo_st (σ2 := sA (sA (sA (sA (sA σ 0 (ua (σ 0) 17 0)) 5 S3) 6 K3) 7 L3) 8 E2) (by rw [u2_sA, sA_comm (j := 8) (k := 0) (by decide), sA_comm (j := 7) (k := 0) (by decide), sA_comm (j := 6) (k := 0) (by decide), sA_comm (j := 5) (k := 0) (by decide)]; first | done | rfl) ?_
                refine hv_aload_n C 0 0 dX12_plugs_105 rfl rfl ?_
                refine hv_iconst C dX12_plugs_106 ?_
                refine mo_puti C K (σ2 := u2 (sA (sA (sA (sA (sA σ 0 (ua (σ 0) 17 0)) 5 S3) 6 K3) 7 L3) 8 E2) 0 18 0) 18 (by decide) rfl mo_hw fl_262 rfl rfl (ty := .int) (by decide +kernel) rfl rfl dX12_plugs_107 ?_
                refine mo_st (σ2 := sA (sA (sA (sA (sA σ 0 (ua (ua (σ 0) 17 0) 18 0)) 5 S3) 6 K3) 7 L3) 8 E2) (by rw [u2_sA, sA_comm (j := 8) (k := 0) (by decide), sA_comm (j := 7) (k := 0) (by decide), sA_comm (j := 6) (k := 0) (by decide), sA_comm (j := 5) (k := 0) (by decide), sA_sA]; first | done | rfl) ?_
                clear hc hs hh hl hwi h70
                refine hv_iconst C dX12_plugs_110 ?_
                refine hv_istore C 4 [(4, .int (iz 0)), (0, .ref a0), (1, .int (iz d)), (2, .int (iz t)), (3, .int (iz (((48 * d) + t) - 1)))] dX12_plugs_111 (by decide) rfl ?_
                have L113 : ∀ (f : Nat) (w : Nat) (Y1 : Nat → Int), 12 - w < f → (w ≤ 12) → (Y1 = zt (σ 14) w) → hvV p l e { frames := 10, cells := 0, slots := 0, locals := 254 } s m args below meth c 8 (moR a0) 0 0 (MQ below (moQ D cI cZ a0 none (sA (sA (sA (sA (sA (sA (sA (sA σ 0 (ua (ua (σ 0) 17 (pgu (pgE σ d t) (pgS σ d t).1 288)) 18 (pgf (pgE σ d t) (pgS σ d t).1 288))) 5 (pgS σ d t).1) 6 (pgS σ d t).2) 7 (ms (σ 1) (pgL σ d t) (σ 1 1).toNat)) 8 (pgE σ d t)) 9 (pgW (pgE σ d t) (pgS σ d t).1 (σ 9) 288)) 10 (pgB (pgE σ d t) (pgS σ d t).1 (σ 10) 288)) 14 (pgY (pgE σ d t) (pgS σ d t).1 (zt (σ 14) 12) 288))) args s 0 0 (moR a0)) (moI D cI cZ a0 s.heap (sA (sA (sA (sA (sA (sA σ 0 (ua (ua (σ 0) 17 0) 18 0)) 5 S3) 6 K3) 7 L3) 8 E2) 14 Y1)) 113 [(0, .ref a0), (1, .int (iz d)), (2, .int (iz t)), (3, .int (iz (((48 * d) + t) - 1))), (4, .int (iz ((w : Nat) : Int)))] [] := by
                  intro f
                  induction f with
                  | zero => intro _ _ hm; exact absurd hm (Nat.not_lt_zero _)
                  | succ f ih113 =>
                    intro w Y1 hm113 hw9 hY1
                    refine hv_iload C 4 4 dX12_plugs_113 rfl ?_
                    refine hv_bipush C dX12_plugs_115 (by decide) ?_
                    refine hv_icmp_ge C 134 dX12_plugs_117 (by decide) (by omega) (by omega) (fun h117 => ?_) (fun h117 => ?_)
                    · skip
                      refine hv_iconst C dX12_plugs_134 ?_
                      refine hv_istore C 4 [(4, .int (iz 0)), (0, .ref a0), (1, .int (iz d)), (2, .int (iz t)), (3, .int (iz (((48 * d) + t) - 1)))] dX12_plugs_135 (by decide) rfl ?_
                      have L137 : ∀ (f : Nat) (k : Nat) (Y : Nat → Int) (W : Nat → Int) (B : Nat → Int) (pu : Int) (fr : Int), 288 - k < f → (k ≤ 288) → (Y = pgY E2 S3 Y1 k) → (W = pgW E2 S3 (σ 9) k) → (B = pgB E2 S3 (σ 10) k) → (pu = pgu E2 S3 k) → (fr = pgf E2 S3 k) → hvV p l e { frames := 10, cells := 0, slots := 0, locals := 254 } s m args below meth c 8 (moR a0) 0 0 (MQ below (moQ D cI cZ a0 none (sA (sA (sA (sA (sA (sA (sA (sA σ 0 (ua (ua (σ 0) 17 (pgu (pgE σ d t) (pgS σ d t).1 288)) 18 (pgf (pgE σ d t) (pgS σ d t).1 288))) 5 (pgS σ d t).1) 6 (pgS σ d t).2) 7 (ms (σ 1) (pgL σ d t) (σ 1 1).toNat)) 8 (pgE σ d t)) 9 (pgW (pgE σ d t) (pgS σ d t).1 (σ 9) 288)) 10 (pgB (pgE σ d t) (pgS σ d t).1 (σ 10) 288)) 14 (pgY (pgE σ d t) (pgS σ d t).1 (zt (σ 14) 12) 288))) args s 0 0 (moR a0)) (moI D cI cZ a0 s.heap (sA (sA (sA (sA (sA (sA (sA (sA σ 0 (ua (ua (σ 0) 17 pu) 18 fr)) 5 S3) 6 K3) 7 L3) 8 E2) 9 W) 10 B) 14 Y)) 137 [(0, .ref a0), (1, .int (iz d)), (2, .int (iz t)), (3, .int (iz (((48 * d) + t) - 1))), (4, .int (iz ((k : Nat) : Int)))] [] := by
                        intro f
                        induction f with
                        | zero => intro _ _ _ _ _ _ hm; exact absurd hm (Nat.not_lt_zero _)
                        | succ f ih137 =>
                          intro k Y W B pu fr hm137 hk hY hW hB hpu hfr
                          have zr9 := pgu_r E2 S3 k
                          refine hv_iload C 4 4 dX12_plugs_137 rfl ?_
                          refine hv_sipush C dX12_plugs_139 (by decide) ?_
                          refine hv_icmp_ge C 338 dX12_plugs_142 (by decide) (by omega) (by omega) (fun h142 => ?_) (fun h142 => ?_)
                          · skip
                            exact mo_vret (Qc := fun _ _ _ _ => True) C hr hlk (by rw [zE, zS3, zL, hY, hW, hB, hpu, hfr, hY1, show w = 12 by omega, show k = 288 by omega, eL3]) dX12_plugs_338
                          · skip
                            have zSk := zS3h (k / 12) (by omega)
                            have zEk := zrE2 (k / 12)
                            refine hv_iload C 4 4 dX12_plugs_145 rfl ?_
                            refine hv_bipush C dX12_plugs_147 (by decide) ?_
                            refine hv_irem C (by omega) (by omega) (by omega) (by omega) dX12_plugs_149 ?_
                            refine hv_as (((k % 12 : Nat) : Int)) (by omega) ?_
                            refine hv_istore C 5 [(5, .int (iz ((k % 12 : Nat) : Int))), (0, .ref a0), (1, .int (iz d)), (2, .int (iz t)), (3, .int (iz (((48 * d) + t) - 1))), (4, .int (iz ((k : Nat) : Int)))] dX12_plugs_150 (by decide) rfl ?_
                            refine hv_aload_n C 0 1 dX12_plugs_152 rfl rfl ?_
                            refine mo_geta C K 16 8 (by decide) rfl mo_hw fl_32 rfl dX12_plugs_153 ?_
                            refine hv_iload C 4 5 dX12_plugs_156 rfl ?_
                            refine hv_bipush C dX12_plugs_158 (by decide) ?_
                            refine hv_idiv C (by omega) (by omega) (by omega) (by omega) dX12_plugs_160 ?_
                            refine hv_as (((k / 12 : Nat) : Int)) (by omega) ?_
                            refine mo_iald C K 8 24 (k / 12) rfl (by omega) (by omega) (by decide) dX12_plugs_161 ?_
                            refine hv_as (E2 (k / 12)) rfl ?_
                            refine hv_iload C 5 0 dX12_plugs_162 rfl ?_
                            refine hv_ishr C (k % 12) (by omega) (by omega) (by omega) dX12_plugs_164 ?_
                            refine hv_iconst C dX12_plugs_165 ?_
                            refine hv_imsk C 1 (by decide) (by decide) dX12_plugs_166 ?_
                            refine hv_iconst C dX12_plugs_167 ?_
                            refine hv_icmp_ne C 175 dX12_plugs_168 (by decide) (by omega) (by omega) (fun h168 => ?_) (fun h168 => ?_)
                            · skip
                              refine hv_iconst C dX12_plugs_175 ?_
                              refine hv_istore C 6 [(6, .int (iz 0)), (5, .int (iz ((k % 12 : Nat) : Int))), (0, .ref a0), (1, .int (iz d)), (2, .int (iz t)), (3, .int (iz (((48 * d) + t) - 1))), (4, .int (iz ((k : Nat) : Int)))] dX12_plugs_176 (by decide) rfl ?_
                              refine hv_aload_n C 0 2 dX12_plugs_178 rfl rfl ?_
                              refine mo_geta C K 13 5 (by decide) rfl mo_hw fl_23 rfl dX12_plugs_179 ?_
                              refine hv_iload C 4 6 dX12_plugs_182 rfl ?_
                              refine hv_bipush C dX12_plugs_184 (by decide) ?_
                              refine hv_idiv C (by omega) (by omega) (by omega) (by omega) dX12_plugs_186 ?_
                              refine hv_as (((k / 12 : Nat) : Int)) (by omega) ?_
                              refine mo_iald C K 5 24 (k / 12) rfl (by omega) (by omega) (by decide) dX12_plugs_187 ?_
                              refine hv_as (S3 (k / 12)) rfl ?_
                              refine hv_if_le C 214 dX12_plugs_188 (by decide) (by omega) (fun h188 => ?_) (fun h188 => ?_)
                              · skip
                                refine hv_iconst C dX12_plugs_214 ?_
                                refine hv_istore C 7 [(7, .int (iz 0)), (6, .int (iz 0)), (5, .int (iz ((k % 12 : Nat) : Int))), (0, .ref a0), (1, .int (iz d)), (2, .int (iz t)), (3, .int (iz (((48 * d) + t) - 1))), (4, .int (iz ((k : Nat) : Int)))] dX12_plugs_215 (by decide) rfl ?_
                                have zw9 : ¬ (pgw E2 k) := h168
                                have zn9 : ¬ (pgn S3 k) := by intro z9; first | exact h207 z9.2 | exact absurd z9.1 (by omega)
                                refine hv_iload C 6 1 dX12_plugs_217 rfl ?_
                                refine hv_if_eq C 238 dX12_plugs_219 (by decide) (by decide) (fun _ => ?_) (fun h => absurd h (by decide))
                                refine hv_iload C 6 1 dX12_plugs_238 rfl ?_
                                refine hv_iload C 7 0 dX12_plugs_240 rfl ?_
                                refine hv_icmp_ne C 248 dX12_plugs_242 (by decide) (by decide) (by decide) (fun h => absurd h (by decide)) (fun _ => ?_)
                                refine hv_goto C 332 dX12_plugs_245 (by decide) ?_
                                refine hv_iinc C 4 7 [(4, .int (iz (((k : Nat) : Int) + 1))), (7, .int (iz 0)), (6, .int (iz 0)), (5, .int (iz ((k % 12 : Nat) : Int))), (0, .ref a0), (1, .int (iz d)), (2, .int (iz t)), (3, .int (iz (((48 * d) + t) - 1)))] dX12_plugs_332 rfl (by decide) rfl ?_
                                refine hv_goto C 137 dX12_plugs_335 (by decide) ?_
                                refine hv_loc [4, 5, 6, 7, 0] [(0, .ref a0), (1, .int (iz d)), (2, .int (iz t)), (3, .int (iz (((48 * d) + t) - 1))), (4, .int (iz (((k : Nat) : Int) + 1)))] rfl ?_
                                exact ih137 (k + 1) Y W B pu fr (by omega) (by omega) (by subst hY; subst hW; subst hB; subst hpu; subst hfr; first | (rw [pgY, if_pos ⟨zw9, zn9⟩]; first | done | rfl) | (rw [pgY, if_neg (fun z9 => zw9 z9.1)]; first | done | rfl) | (rw [pgY, if_neg (fun z9 => zn9 z9.2)]; first | done | rfl)) (by subst hY; subst hW; subst hB; subst hpu; subst hfr; first | (rw [pgW, if_neg (fun z9 => z9.1 ⟨fun _ => zn9, fun _ => zw9⟩)]; first | done | rfl) | (rw [pgW, if_neg (fun z9 => z9.1 ⟨fun a9 => absurd a9 zw9, fun a9 => absurd a9 zn9⟩)]; first | done | rfl) | (rw [pgW, if_pos ⟨fun z9 => zn9 (z9.1 zw9), by omega⟩]; first | done | rfl) | (rw [pgW, if_pos ⟨fun z9 => zw9 (z9.2 zn9), by omega⟩]; first | done | rfl) | (rw [pgW, if_neg (fun z9 => by have z8 := z9.2; omega)]; first | done | rfl)) (by subst hY; subst hW; subst hB; subst hpu; subst hfr; first | (rw [pgB, if_neg (fun z9 => z9.1 ⟨fun _ => zn9, fun _ => zw9⟩)]; first | done | rfl) | (rw [pgB, if_neg (fun z9 => z9.1 ⟨fun a9 => absurd a9 zw9, fun a9 => absurd a9 zn9⟩)]; first | done | rfl) | (rw [pgB, if_pos ⟨fun z9 => zn9 (z9.1 zw9), by omega⟩, if_neg zn9]; first | done | rfl) | (rw [pgB, if_pos ⟨fun z9 => zw9 (z9.2 zn9), by omega⟩, if_pos zn9]; first | done | rfl) | (rw [pgB, if_neg (fun z9 => by have z8 := z9.2; omega)]; first | done | rfl)) (by subst hY; subst hW; subst hB; subst hpu; subst hfr; first | (rw [pgu, if_pos ⟨zw9, zn9⟩]; first | done | rfl) | (rw [pgu, if_neg (fun z9 => zw9 z9.1)]; first | done | rfl) | (rw [pgu, if_neg (fun z9 => z9.2 zn9)]; first | done | rfl) | (rw [pgu, if_neg (fun z9 => zw9 z9.1), Int.add_zero]; first | done | rfl) | (rw [pgu, if_neg (fun z9 => z9.2 zn9), Int.add_zero]; first | done | rfl)) (by subst hY; subst hW; subst hB; subst hpu; subst hfr; first | (rw [pgf, if_pos ⟨zw9, zn9⟩]; first | done | rfl) | (rw [pgf, if_neg (fun z9 => z9.1 zw9)]; first | done | rfl) | (rw [pgf, if_neg (fun z9 => zn9 z9.2)]; first | done | rfl) | (rw [pgf, if_neg (fun z9 => z9.1 zw9), Int.add_zero]; first | done | rfl) | (rw [pgf, if_neg (fun z9 => zn9 z9.2), Int.add_zero]; first | done | rfl))
                              · skip
                                refine hv_aload_n C 0 2 dX12_plugs_191 rfl rfl ?_
                                refine mo_geta C K 13 5 (by decide) rfl mo_hw fl_23 rfl dX12_plugs_192 ?_
                                refine hv_iload C 4 6 dX12_plugs_195 rfl ?_
                                refine hv_bipush C dX12_plugs_197 (by decide) ?_
                                refine hv_idiv C (by omega) (by omega) (by omega) (by omega) dX12_plugs_199 ?_
                                refine hv_as (((k / 12 : Nat) : Int)) (by omega) ?_
                                refine mo_iald C K 5 24 (k / 12) rfl (by omega) (by omega) (by decide) dX12_plugs_200 ?_
                                refine hv_as (S3 (k / 12)) rfl ?_
                                refine hv_iload C 5 1 dX12_plugs_201 rfl ?_
                                refine hv_ishr C (k % 12) (by omega) (by omega) (by omega) dX12_plugs_203 ?_
                                refine hv_iconst C dX12_plugs_204 ?_
                                refine hv_imsk C 1 (by decide) (by decide) dX12_plugs_205 ?_
                                refine hv_iconst C dX12_plugs_206 ?_
                                refine hv_icmp_ne C 214 dX12_plugs_207 (by decide) (by omega) (by omega) (fun h207 => ?_) (fun h207 => ?_)
                                · skip
                                  refine hv_iconst C dX12_plugs_214 ?_
                                  refine hv_istore C 7 [(7, .int (iz 0)), (6, .int (iz 0)), (5, .int (iz ((k % 12 : Nat) : Int))), (0, .ref a0), (1, .int (iz d)), (2, .int (iz t)), (3, .int (iz (((48 * d) + t) - 1))), (4, .int (iz ((k : Nat) : Int)))] dX12_plugs_215 (by decide) rfl ?_
                                  have zw9 : ¬ (pgw E2 k) := h168
                                  have zn9 : ¬ (pgn S3 k) := by intro z9; first | exact h207 z9.2 | exact absurd z9.1 (by omega)
                                  refine hv_iload C 6 1 dX12_plugs_217 rfl ?_
                                  refine hv_if_eq C 238 dX12_plugs_219 (by decide) (by decide) (fun _ => ?_) (fun h => absurd h (by decide))
                                  refine hv_iload C 6 1 dX12_plugs_238 rfl ?_
                                  refine hv_iload C 7 0 dX12_plugs_240 rfl ?_
                                  refine hv_icmp_ne C 248 dX12_plugs_242 (by decide) (by decide) (by decide) (fun h => absurd h (by decide)) (fun _ => ?_)
                                  refine hv_goto C 332 dX12_plugs_245 (by decide) ?_
                                  refine hv_iinc C 4 7 [(4, .int (iz (((k : Nat) : Int) + 1))), (7, .int (iz 0)), (6, .int (iz 0)), (5, .int (iz ((k % 12 : Nat) : Int))), (0, .ref a0), (1, .int (iz d)), (2, .int (iz t)), (3, .int (iz (((48 * d) + t) - 1)))] dX12_plugs_332 rfl (by decide) rfl ?_
                                  refine hv_goto C 137 dX12_plugs_335 (by decide) ?_
                                  refine hv_loc [4, 5, 6, 7, 0] [(0, .ref a0), (1, .int (iz d)), (2, .int (iz t)), (3, .int (iz (((48 * d) + t) - 1))), (4, .int (iz (((k : Nat) : Int) + 1)))] rfl ?_
                                  exact ih137 (k + 1) Y W B pu fr (by omega) (by omega) (by subst hY; subst hW; subst hB; subst hpu; subst hfr; first | (rw [pgY, if_pos ⟨zw9, zn9⟩]; first | done | rfl) | (rw [pgY, if_neg (fun z9 => zw9 z9.1)]; first | done | rfl) | (rw [pgY, if_neg (fun z9 => zn9 z9.2)]; first | done | rfl)) (by subst hY; subst hW; subst hB; subst hpu; subst hfr; first | (rw [pgW, if_neg (fun z9 => z9.1 ⟨fun _ => zn9, fun _ => zw9⟩)]; first | done | rfl) | (rw [pgW, if_neg (fun z9 => z9.1 ⟨fun a9 => absurd a9 zw9, fun a9 => absurd a9 zn9⟩)]; first | done | rfl) | (rw [pgW, if_pos ⟨fun z9 => zn9 (z9.1 zw9), by omega⟩]; first | done | rfl) | (rw [pgW, if_pos ⟨fun z9 => zw9 (z9.2 zn9), by omega⟩]; first | done | rfl) | (rw [pgW, if_neg (fun z9 => by have z8 := z9.2; omega)]; first | done | rfl)) (by subst hY; subst hW; subst hB; subst hpu; subst hfr; first | (rw [pgB, if_neg (fun z9 => z9.1 ⟨fun _ => zn9, fun _ => zw9⟩)]; first | done | rfl) | (rw [pgB, if_neg (fun z9 => z9.1 ⟨fun a9 => absurd a9 zw9, fun a9 => absurd a9 zn9⟩)]; first | done | rfl) | (rw [pgB, if_pos ⟨fun z9 => zn9 (z9.1 zw9), by omega⟩, if_neg zn9]; first | done | rfl) | (rw [pgB, if_pos ⟨fun z9 => zw9 (z9.2 zn9), by omega⟩, if_pos zn9]; first | done | rfl) | (rw [pgB, if_neg (fun z9 => by have z8 := z9.2; omega)]; first | done | rfl)) (by subst hY; subst hW; subst hB; subst hpu; subst hfr; first | (rw [pgu, if_pos ⟨zw9, zn9⟩]; first | done | rfl) | (rw [pgu, if_neg (fun z9 => zw9 z9.1)]; first | done | rfl) | (rw [pgu, if_neg (fun z9 => z9.2 zn9)]; first | done | rfl) | (rw [pgu, if_neg (fun z9 => zw9 z9.1), Int.add_zero]; first | done | rfl) | (rw [pgu, if_neg (fun z9 => z9.2 zn9), Int.add_zero]; first | done | rfl)) (by subst hY; subst hW; subst hB; subst hpu; subst hfr; first | (rw [pgf, if_pos ⟨zw9, zn9⟩]; first | done | rfl) | (rw [pgf, if_neg (fun z9 => z9.1 zw9)]; first | done | rfl) | (rw [pgf, if_neg (fun z9 => zn9 z9.2)]; first | done | rfl) | (rw [pgf, if_neg (fun z9 => z9.1 zw9), Int.add_zero]; first | done | rfl) | (rw [pgf, if_neg (fun z9 => zn9 z9.2), Int.add_zero]; first | done | rfl))
                                · skip
                                  refine hv_iconst C dX12_plugs_210 ?_
                                  refine hv_goto C 215 dX12_plugs_211 (by decide) ?_
                                  refine hv_istore C 7 [(7, .int (iz 1)), (6, .int (iz 0)), (5, .int (iz ((k % 12 : Nat) : Int))), (0, .ref a0), (1, .int (iz d)), (2, .int (iz t)), (3, .int (iz (((48 * d) + t) - 1))), (4, .int (iz ((k : Nat) : Int)))] dX12_plugs_215 (by decide) rfl ?_
                                  have zw9 : ¬ (pgw E2 k) := h168
                                  have zn9 : (pgn S3 k) := ⟨h188, h207⟩
                                  refine hv_iload C 6 1 dX12_plugs_217 rfl ?_
                                  refine hv_if_eq C 238 dX12_plugs_219 (by decide) (by decide) (fun _ => ?_) (fun h => absurd h (by decide))
                                  refine hv_iload C 6 1 dX12_plugs_238 rfl ?_
                                  refine hv_iload C 7 0 dX12_plugs_240 rfl ?_
                                  refine hv_icmp_ne C 248 dX12_plugs_242 (by decide) (by decide) (by decide) (fun _ => ?_) (fun h => absurd h (by decide))
                                  refine hv_aload_n C 0 3 dX12_plugs_248 rfl rfl ?_
                                  refine mo_geti C K (x := pu) 17 (by decide) rfl mo_hw fl_259 rfl dX12_plugs_249 ?_
                                  refine hv_aload_n C 0 3 dX12_plugs_252 rfl rfl ?_
                                  refine mo_geti C K (x := fr) 18 (by decide) rfl mo_hw fl_262 rfl dX12_plugs_253 ?_
                                  refine hv_iadd C dX12_plugs_256 ?_
                                  refine hv_bipush C dX12_plugs_257 (by decide) ?_
                                  refine hv_icmp_ge C 294 dX12_plugs_259 (by decide) (by omega) (by omega) (fun h259 => ?_) (fun h259 => ?_)
                                  · skip
                                    refine hv_aload_n C 0 3 dX12_plugs_294 rfl rfl ?_
                                    refine hv_dup C dX12_plugs_295 rfl ?_
                                    refine mo_geti C K (x := pu) 17 (by decide) rfl mo_hw fl_259 rfl dX12_plugs_296 ?_
                                    refine hv_iload C 6 1 dX12_plugs_299 rfl ?_
                                    refine hv_if_eq C 308 dX12_plugs_301 (by decide) (by decide) (fun _ => ?_) (fun h => absurd h (by decide))
                                    refine hv_iconst C dX12_plugs_308 ?_
                                    refine hv_iadd C dX12_plugs_309 ?_
                                    refine mo_puti C K (σ2 := u2 (sA (sA (sA (sA (sA (sA (sA (sA σ 0 (ua (ua (σ 0) 17 pu) 18 fr)) 5 S3) 6 K3) 7 L3) 8 E2) 9 W) 10 B) 14 Y) 0 17 (pu + 0)) 17 (by decide) rfl mo_hw fl_259 rfl rfl (ty := .int) (by decide +kernel) rfl rfl dX12_plugs_310 ?_
                                    refine mo_st (σ2 := sA (sA (sA (sA (sA (sA (sA (sA σ 0 (ua (ua (σ 0) 17 (pu + 0)) 18 fr)) 5 S3) 6 K3) 7 L3) 8 E2) 9 W) 10 B) 14 Y) (by rw [u2_sA, sA_comm (j := 14) (k := 0) (by decide), sA_comm (j := 10) (k := 0) (by decide), sA_comm (j := 9) (k := 0) (by decide), sA_comm (j := 8) (k := 0) (by decide), sA_comm (j := 7) (k := 0) (by decide), sA_comm (j := 6) (k := 0) (by decide), sA_comm (j := 5) (k := 0) (by decide), sA_sA]; rw [show (sA (sA (sA (sA (sA (sA (sA (sA σ 0 (ua (ua (σ 0) 17 pu) 18 fr)) 5 S3) 6 K3) 7 L3) 8 E2) 9 W) 10 B) 14 Y) 0 = (ua (ua (σ 0) 17 pu) 18 fr) from rfl, ua_comm (i := 18) (k := 17) (by decide), ua_ua]; first | done | rfl) ?_
                                    refine hv_aload_n C 0 3 dX12_plugs_313 rfl rfl ?_
                                    refine hv_dup C dX12_plugs_314 rfl ?_
                                    refine mo_geti C K (x := fr) 18 (by decide) rfl mo_hw fl_262 rfl dX12_plugs_315 ?_
                                    refine hv_iload C 7 0 dX12_plugs_318 rfl ?_
                                    refine hv_if_eq C 327 dX12_plugs_320 (by decide) (by decide) (fun h => absurd h (by decide)) (fun _ => ?_)
                                    refine hv_iconst C dX12_plugs_323 ?_
                                    refine hv_goto C 328 dX12_plugs_324 (by decide) ?_
                                    refine hv_iadd C dX12_plugs_328 ?_
                                    refine mo_puti C K (σ2 := u2 (sA (sA (sA (sA (sA (sA (sA (sA σ 0 (ua (ua (σ 0) 17 (pu + 0)) 18 fr)) 5 S3) 6 K3) 7 L3) 8 E2) 9 W) 10 B) 14 Y) 0 18 (fr + 1)) 18 (by decide) rfl mo_hw fl_262 rfl rfl (ty := .int) (by decide +kernel) rfl rfl dX12_plugs_329 ?_
                                    refine mo_st (σ2 := sA (sA (sA (sA (sA (sA (sA (sA σ 0 (ua (ua (σ 0) 17 (pu + 0)) 18 (fr + 1))) 5 S3) 6 K3) 7 L3) 8 E2) 9 W) 10 B) 14 Y) (by rw [u2_sA, sA_comm (j := 14) (k := 0) (by decide), sA_comm (j := 10) (k := 0) (by decide), sA_comm (j := 9) (k := 0) (by decide), sA_comm (j := 8) (k := 0) (by decide), sA_comm (j := 7) (k := 0) (by decide), sA_comm (j := 6) (k := 0) (by decide), sA_comm (j := 5) (k := 0) (by decide), sA_sA]; rw [show (sA (sA (sA (sA (sA (sA (sA (sA σ 0 (ua (ua (σ 0) 17 (pu + 0)) 18 fr)) 5 S3) 6 K3) 7 L3) 8 E2) 9 W) 10 B) 14 Y) 0 = (ua (ua (σ 0) 17 (pu + 0)) 18 fr) from rfl, ua_ua]; first | done | rfl) ?_
                                    refine hv_iinc C 4 7 [(4, .int (iz (((k : Nat) : Int) + 1))), (7, .int (iz 1)), (6, .int (iz 0)), (5, .int (iz ((k % 12 : Nat) : Int))), (0, .ref a0), (1, .int (iz d)), (2, .int (iz t)), (3, .int (iz (((48 * d) + t) - 1)))] dX12_plugs_332 rfl (by decide) rfl ?_
                                    refine hv_goto C 137 dX12_plugs_335 (by decide) ?_
                                    refine hv_loc [4, 5, 6, 7, 0] [(0, .ref a0), (1, .int (iz d)), (2, .int (iz t)), (3, .int (iz (((48 * d) + t) - 1))), (4, .int (iz (((k : Nat) : Int) + 1)))] rfl ?_
                                    exact ih137 (k + 1) Y W B (pu + 0) (fr + 1) (by omega) (by omega) (by subst hY; subst hW; subst hB; subst hpu; subst hfr; first | (rw [pgY, if_pos ⟨zw9, zn9⟩]; first | done | rfl) | (rw [pgY, if_neg (fun z9 => zw9 z9.1)]; first | done | rfl) | (rw [pgY, if_neg (fun z9 => zn9 z9.2)]; first | done | rfl)) (by subst hY; subst hW; subst hB; subst hpu; subst hfr; first | (rw [pgW, if_neg (fun z9 => z9.1 ⟨fun _ => zn9, fun _ => zw9⟩)]; first | done | rfl) | (rw [pgW, if_neg (fun z9 => z9.1 ⟨fun a9 => absurd a9 zw9, fun a9 => absurd a9 zn9⟩)]; first | done | rfl) | (rw [pgW, if_pos ⟨fun z9 => zn9 (z9.1 zw9), by omega⟩]; first | done | rfl) | (rw [pgW, if_pos ⟨fun z9 => zw9 (z9.2 zn9), by omega⟩]; first | done | rfl) | (rw [pgW, if_neg (fun z9 => by have z8 := z9.2; omega)]; first | done | rfl)) (by subst hY; subst hW; subst hB; subst hpu; subst hfr; first | (rw [pgB, if_neg (fun z9 => z9.1 ⟨fun _ => zn9, fun _ => zw9⟩)]; first | done | rfl) | (rw [pgB, if_neg (fun z9 => z9.1 ⟨fun a9 => absurd a9 zw9, fun a9 => absurd a9 zn9⟩)]; first | done | rfl) | (rw [pgB, if_pos ⟨fun z9 => zn9 (z9.1 zw9), by omega⟩, if_neg zn9]; first | done | rfl) | (rw [pgB, if_pos ⟨fun z9 => zw9 (z9.2 zn9), by omega⟩, if_pos zn9]; first | done | rfl) | (rw [pgB, if_neg (fun z9 => by have z8 := z9.2; omega)]; first | done | rfl)) (by subst hY; subst hW; subst hB; subst hpu; subst hfr; first | (rw [pgu, if_pos ⟨zw9, zn9⟩]; first | done | rfl) | (rw [pgu, if_neg (fun z9 => zw9 z9.1)]; first | done | rfl) | (rw [pgu, if_neg (fun z9 => z9.2 zn9)]; first | done | rfl) | (rw [pgu, if_neg (fun z9 => zw9 z9.1), Int.add_zero]; first | done | rfl) | (rw [pgu, if_neg (fun z9 => z9.2 zn9), Int.add_zero]; first | done | rfl)) (by subst hY; subst hW; subst hB; subst hpu; subst hfr; first | (rw [pgf, if_pos ⟨zw9, zn9⟩]; first | done | rfl) | (rw [pgf, if_neg (fun z9 => z9.1 zw9)]; first | done | rfl) | (rw [pgf, if_neg (fun z9 => zn9 z9.2)]; first | done | rfl) | (rw [pgf, if_neg (fun z9 => z9.1 zw9), Int.add_zero]; first | done | rfl) | (rw [pgf, if_neg (fun z9 => zn9 z9.2), Int.add_zero]; first | done | rfl))
                                  · skip
                                    refine hv_aload_n C 0 3 dX12_plugs_262 rfl rfl ?_
                                    refine mo_geta C K 19 9 (by decide) rfl mo_hw fl_35 rfl dX12_plugs_263 ?_
                                    refine hv_aload_n C 0 3 dX12_plugs_266 rfl rfl ?_
                                    refine mo_geti C K (x := pu) 17 (by decide) rfl mo_hw fl_259 rfl dX12_plugs_267 ?_
                                    refine hv_aload_n C 0 3 dX12_plugs_270 rfl rfl ?_
                                    refine mo_geti C K (x := fr) 18 (by decide) rfl mo_hw fl_262 rfl dX12_plugs_271 ?_
                                    refine hv_iadd C dX12_plugs_274 ?_
                                    refine hv_iload C 5 2 dX12_plugs_275 rfl ?_
                                    refine mo_iast C K 9 7 (((pu + fr) : Int)).toNat rfl (moW_set9 _ _ _ _ _ _) (by omega) (by omega) (by decide) dX12_plugs_277 ?_
                                    refine mo_st (σ2 := sA (sA (sA (sA (sA (sA (sA (sA σ 0 (ua (ua (σ 0) 17 pu) 18 fr)) 5 S3) 6 K3) 7 L3) 8 E2) 9 (ua W (((pu + fr) : Int)).toNat ((k % 12 : Nat) : Int))) 10 B) 14 Y) (by rw [u2_sA, sA_comm (j := 14) (k := 9) (by decide), sA_comm (j := 10) (k := 9) (by decide), sA_sA]; first | done | rfl) ?_
                                    refine hv_aload_n C 0 3 dX12_plugs_278 rfl rfl ?_
                                    refine mo_geta C K 20 10 (by decide) rfl mo_hw fl_38 rfl dX12_plugs_279 ?_
                                    refine hv_aload_n C 0 3 dX12_plugs_282 rfl rfl ?_
                                    refine mo_geti C K (x := pu) 17 (by decide) rfl mo_hw fl_259 rfl dX12_plugs_283 ?_
                                    refine hv_aload_n C 0 3 dX12_plugs_286 rfl rfl ?_
                                    refine mo_geti C K (x := fr) 18 (by decide) rfl mo_hw fl_262 rfl dX12_plugs_287 ?_
                                    refine hv_iadd C dX12_plugs_290 ?_
                                    refine hv_iload C 7 0 dX12_plugs_291 rfl ?_
                                    refine mo_zast C K 10 7 (((pu + fr) : Int)).toNat true rfl (moW_set10 _ _ _ _ _ _) (by omega) (by omega) (by decide) dX12_plugs_293 ?_
                                    refine mo_st (σ2 := sA (sA (sA (sA (sA (sA (sA (sA σ 0 (ua (ua (σ 0) 17 pu) 18 fr)) 5 S3) 6 K3) 7 L3) 8 E2) 9 (ua W (((pu + fr) : Int)).toNat ((k % 12 : Nat) : Int))) 10 (ua B (((pu + fr) : Int)).toNat (xb true))) 14 Y) (by rw [u2_sA, sA_comm (j := 14) (k := 10) (by decide), sA_sA]; first | done | rfl) ?_
                                    refine hv_aload_n C 0 3 dX12_plugs_294 rfl rfl ?_
                                    refine hv_dup C dX12_plugs_295 rfl ?_
                                    refine mo_geti C K (x := pu) 17 (by decide) rfl mo_hw fl_259 rfl dX12_plugs_296 ?_
                                    refine hv_iload C 6 1 dX12_plugs_299 rfl ?_
                                    refine hv_if_eq C 308 dX12_plugs_301 (by decide) (by decide) (fun _ => ?_) (fun h => absurd h (by decide))
                                    refine hv_iconst C dX12_plugs_308 ?_
                                    refine hv_iadd C dX12_plugs_309 ?_
                                    refine mo_puti C K (σ2 := u2 (sA (sA (sA (sA (sA (sA (sA (sA σ 0 (ua (ua (σ 0) 17 pu) 18 fr)) 5 S3) 6 K3) 7 L3) 8 E2) 9 (ua W (((pu + fr) : Int)).toNat ((k % 12 : Nat) : Int))) 10 (ua B (((pu + fr) : Int)).toNat (xb true))) 14 Y) 0 17 (pu + 0)) 17 (by decide) rfl mo_hw fl_259 rfl rfl (ty := .int) (by decide +kernel) rfl rfl dX12_plugs_310 ?_
                                    refine mo_st (σ2 := sA (sA (sA (sA (sA (sA (sA (sA σ 0 (ua (ua (σ 0) 17 (pu + 0)) 18 fr)) 5 S3) 6 K3) 7 L3) 8 E2) 9 (ua W (((pu + fr) : Int)).toNat ((k % 12 : Nat) : Int))) 10 (ua B (((pu + fr) : Int)).toNat (xb true))) 14 Y) (by rw [u2_sA, sA_comm (j := 14) (k := 0) (by decide), sA_comm (j := 10) (k := 0) (by decide), sA_comm (j := 9) (k := 0) (by decide), sA_comm (j := 8) (k := 0) (by decide), sA_comm (j := 7) (k := 0) (by decide), sA_comm (j := 6) (k := 0) (by decide), sA_comm (j := 5) (k := 0) (by decide), sA_sA]; rw [show (sA (sA (sA (sA (sA (sA (sA (sA σ 0 (ua (ua (σ 0) 17 pu) 18 fr)) 5 S3) 6 K3) 7 L3) 8 E2) 9 (ua W (((pu + fr) : Int)).toNat ((k % 12 : Nat) : Int))) 10 (ua B (((pu + fr) : Int)).toNat (xb true))) 14 Y) 0 = (ua (ua (σ 0) 17 pu) 18 fr) from rfl, ua_comm (i := 18) (k := 17) (by decide), ua_ua]; first | done | rfl) ?_
                                    refine hv_aload_n C 0 3 dX12_plugs_313 rfl rfl ?_
                                    refine hv_dup C dX12_plugs_314 rfl ?_
                                    refine mo_geti C K (x := fr) 18 (by decide) rfl mo_hw fl_262 rfl dX12_plugs_315 ?_
                                    refine hv_iload C 7 0 dX12_plugs_318 rfl ?_
                                    refine hv_if_eq C 327 dX12_plugs_320 (by decide) (by decide) (fun h => absurd h (by decide)) (fun _ => ?_)
                                    refine hv_iconst C dX12_plugs_323 ?_
                                    refine hv_goto C 328 dX12_plugs_324 (by decide) ?_
                                    refine hv_iadd C dX12_plugs_328 ?_
                                    refine mo_puti C K (σ2 := u2 (sA (sA (sA (sA (sA (sA (sA (sA σ 0 (ua (ua (σ 0) 17 (pu + 0)) 18 fr)) 5 S3) 6 K3) 7 L3) 8 E2) 9 (ua W (((pu + fr) : Int)).toNat ((k % 12 : Nat) : Int))) 10 (ua B (((pu + fr) : Int)).toNat (xb true))) 14 Y) 0 18 (fr + 1)) 18 (by decide) rfl mo_hw fl_262 rfl rfl (ty := .int) (by decide +kernel) rfl rfl dX12_plugs_329 ?_
                                    refine mo_st (σ2 := sA (sA (sA (sA (sA (sA (sA (sA σ 0 (ua (ua (σ 0) 17 (pu + 0)) 18 (fr + 1))) 5 S3) 6 K3) 7 L3) 8 E2) 9 (ua W (((pu + fr) : Int)).toNat ((k % 12 : Nat) : Int))) 10 (ua B (((pu + fr) : Int)).toNat (xb true))) 14 Y) (by rw [u2_sA, sA_comm (j := 14) (k := 0) (by decide), sA_comm (j := 10) (k := 0) (by decide), sA_comm (j := 9) (k := 0) (by decide), sA_comm (j := 8) (k := 0) (by decide), sA_comm (j := 7) (k := 0) (by decide), sA_comm (j := 6) (k := 0) (by decide), sA_comm (j := 5) (k := 0) (by decide), sA_sA]; rw [show (sA (sA (sA (sA (sA (sA (sA (sA σ 0 (ua (ua (σ 0) 17 (pu + 0)) 18 fr)) 5 S3) 6 K3) 7 L3) 8 E2) 9 (ua W (((pu + fr) : Int)).toNat ((k % 12 : Nat) : Int))) 10 (ua B (((pu + fr) : Int)).toNat (xb true))) 14 Y) 0 = (ua (ua (σ 0) 17 (pu + 0)) 18 fr) from rfl, ua_ua]; first | done | rfl) ?_
                                    refine hv_iinc C 4 7 [(4, .int (iz (((k : Nat) : Int) + 1))), (7, .int (iz 1)), (6, .int (iz 0)), (5, .int (iz ((k % 12 : Nat) : Int))), (0, .ref a0), (1, .int (iz d)), (2, .int (iz t)), (3, .int (iz (((48 * d) + t) - 1)))] dX12_plugs_332 rfl (by decide) rfl ?_
                                    refine hv_goto C 137 dX12_plugs_335 (by decide) ?_
                                    refine hv_loc [4, 5, 6, 7, 0] [(0, .ref a0), (1, .int (iz d)), (2, .int (iz t)), (3, .int (iz (((48 * d) + t) - 1))), (4, .int (iz (((k : Nat) : Int) + 1)))] rfl ?_
                                    exact ih137 (k + 1) Y (ua W (((pu + fr) : Int)).toNat ((k % 12 : Nat) : Int)) (ua B (((pu + fr) : Int)).toNat (xb true)) (pu + 0) (fr + 1) (by omega) (by omega) (by subst hY; subst hW; subst hB; subst hpu; subst hfr; first | (rw [pgY, if_pos ⟨zw9, zn9⟩]; first | done | rfl) | (rw [pgY, if_neg (fun z9 => zw9 z9.1)]; first | done | rfl) | (rw [pgY, if_neg (fun z9 => zn9 z9.2)]; first | done | rfl)) (by subst hY; subst hW; subst hB; subst hpu; subst hfr; first | (rw [pgW, if_neg (fun z9 => z9.1 ⟨fun _ => zn9, fun _ => zw9⟩)]; first | done | rfl) | (rw [pgW, if_neg (fun z9 => z9.1 ⟨fun a9 => absurd a9 zw9, fun a9 => absurd a9 zn9⟩)]; first | done | rfl) | (rw [pgW, if_pos ⟨fun z9 => zn9 (z9.1 zw9), by omega⟩]; first | done | rfl) | (rw [pgW, if_pos ⟨fun z9 => zw9 (z9.2 zn9), by omega⟩]; first | done | rfl) | (rw [pgW, if_neg (fun z9 => by have z8 := z9.2; omega)]; first | done | rfl)) (by subst hY; subst hW; subst hB; subst hpu; subst hfr; first | (rw [pgB, if_neg (fun z9 => z9.1 ⟨fun _ => zn9, fun _ => zw9⟩)]; first | done | rfl) | (rw [pgB, if_neg (fun z9 => z9.1 ⟨fun a9 => absurd a9 zw9, fun a9 => absurd a9 zn9⟩)]; first | done | rfl) | (rw [pgB, if_pos ⟨fun z9 => zn9 (z9.1 zw9), by omega⟩, if_neg zn9]; first | done | rfl) | (rw [pgB, if_pos ⟨fun z9 => zw9 (z9.2 zn9), by omega⟩, if_pos zn9]; first | done | rfl) | (rw [pgB, if_neg (fun z9 => by have z8 := z9.2; omega)]; first | done | rfl)) (by subst hY; subst hW; subst hB; subst hpu; subst hfr; first | (rw [pgu, if_pos ⟨zw9, zn9⟩]; first | done | rfl) | (rw [pgu, if_neg (fun z9 => zw9 z9.1)]; first | done | rfl) | (rw [pgu, if_neg (fun z9 => z9.2 zn9)]; first | done | rfl) | (rw [pgu, if_neg (fun z9 => zw9 z9.1), Int.add_zero]; first | done | rfl) | (rw [pgu, if_neg (fun z9 => z9.2 zn9), Int.add_zero]; first | done | rfl)) (by subst hY; subst hW; subst hB; subst hpu; subst hfr; first | (rw [pgf, if_pos ⟨zw9, zn9⟩]; first | done | rfl) | (rw [pgf, if_neg (fun z9 => z9.1 zw9)]; first | done | rfl) | (rw [pgf, if_neg (fun z9 => zn9 z9.2)]; first | done | rfl) | (rw [pgf, if_neg (fun z9 => z9.1 zw9), Int.add_zero]; first | done | rfl) | (rw [pgf, if_neg (fun z9 => zn9 z9.2), Int.add_zero]; first | done | rfl))
                            · skip
                              refine hv_iconst C dX12_plugs_171 ?_
                              refine hv_goto C 176 dX12_plugs_172 (by decide) ?_
                              refine hv_istore C 6 [(6, .int (iz 1)), (5, .int (iz ((k % 12 : Nat) : Int))), (0, .ref a0), (1, .int (iz d)), (2, .int (iz t)), (3, .int (iz (((48 * d) + t) - 1))), (4, .int (iz ((k : Nat) : Int)))] dX12_plugs_176 (by decide) rfl ?_
                              refine hv_aload_n C 0 2 dX12_plugs_178 rfl rfl ?_
                              refine mo_geta C K 13 5 (by decide) rfl mo_hw fl_23 rfl dX12_plugs_179 ?_
                              refine hv_iload C 4 6 dX12_plugs_182 rfl ?_
                              refine hv_bipush C dX12_plugs_184 (by decide) ?_
                              refine hv_idiv C (by omega) (by omega) (by omega) (by omega) dX12_plugs_186 ?_
                              refine hv_as (((k / 12 : Nat) : Int)) (by omega) ?_
                              refine mo_iald C K 5 24 (k / 12) rfl (by omega) (by omega) (by decide) dX12_plugs_187 ?_
                              refine hv_as (S3 (k / 12)) rfl ?_
                              refine hv_if_le C 214 dX12_plugs_188 (by decide) (by omega) (fun h188 => ?_) (fun h188 => ?_)
                              · skip
                                refine hv_iconst C dX12_plugs_214 ?_
                                refine hv_istore C 7 [(7, .int (iz 0)), (6, .int (iz 1)), (5, .int (iz ((k % 12 : Nat) : Int))), (0, .ref a0), (1, .int (iz d)), (2, .int (iz t)), (3, .int (iz (((48 * d) + t) - 1))), (4, .int (iz ((k : Nat) : Int)))] dX12_plugs_215 (by decide) rfl ?_
                                have zw9 : (pgw E2 k) := h168
                                have zn9 : ¬ (pgn S3 k) := by intro z9; first | exact h207 z9.2 | exact absurd z9.1 (by omega)
                                refine hv_iload C 6 1 dX12_plugs_217 rfl ?_
                                refine hv_if_eq C 238 dX12_plugs_219 (by decide) (by decide) (fun h => absurd h (by decide)) (fun _ => ?_)
                                refine hv_iload C 7 0 dX12_plugs_222 rfl ?_
                                refine hv_if_eq C 238 dX12_plugs_224 (by decide) (by decide) (fun _ => ?_) (fun h => absurd h (by decide))
                                refine hv_iload C 6 1 dX12_plugs_238 rfl ?_
                                refine hv_iload C 7 0 dX12_plugs_240 rfl ?_
                                refine hv_icmp_ne C 248 dX12_plugs_242 (by decide) (by decide) (by decide) (fun _ => ?_) (fun h => absurd h (by decide))
                                refine hv_aload_n C 0 3 dX12_plugs_248 rfl rfl ?_
                                refine mo_geti C K (x := pu) 17 (by decide) rfl mo_hw fl_259 rfl dX12_plugs_249 ?_
                                refine hv_aload_n C 0 3 dX12_plugs_252 rfl rfl ?_
                                refine mo_geti C K (x := fr) 18 (by decide) rfl mo_hw fl_262 rfl dX12_plugs_253 ?_
                                refine hv_iadd C dX12_plugs_256 ?_
                                refine hv_bipush C dX12_plugs_257 (by decide) ?_
                                refine hv_icmp_ge C 294 dX12_plugs_259 (by decide) (by omega) (by omega) (fun h259 => ?_) (fun h259 => ?_)
                                · skip
                                  refine hv_aload_n C 0 3 dX12_plugs_294 rfl rfl ?_
                                  refine hv_dup C dX12_plugs_295 rfl ?_
                                  refine mo_geti C K (x := pu) 17 (by decide) rfl mo_hw fl_259 rfl dX12_plugs_296 ?_
                                  refine hv_iload C 6 1 dX12_plugs_299 rfl ?_
                                  refine hv_if_eq C 308 dX12_plugs_301 (by decide) (by decide) (fun h => absurd h (by decide)) (fun _ => ?_)
                                  refine hv_iconst C dX12_plugs_304 ?_
                                  refine hv_goto C 309 dX12_plugs_305 (by decide) ?_
                                  refine hv_iadd C dX12_plugs_309 ?_
                                  refine mo_puti C K (σ2 := u2 (sA (sA (sA (sA (sA (sA (sA (sA σ 0 (ua (ua (σ 0) 17 pu) 18 fr)) 5 S3) 6 K3) 7 L3) 8 E2) 9 W) 10 B) 14 Y) 0 17 (pu + 1)) 17 (by decide) rfl mo_hw fl_259 rfl rfl (ty := .int) (by decide +kernel) rfl rfl dX12_plugs_310 ?_
                                  refine mo_st (σ2 := sA (sA (sA (sA (sA (sA (sA (sA σ 0 (ua (ua (σ 0) 17 (pu + 1)) 18 fr)) 5 S3) 6 K3) 7 L3) 8 E2) 9 W) 10 B) 14 Y) (by rw [u2_sA, sA_comm (j := 14) (k := 0) (by decide), sA_comm (j := 10) (k := 0) (by decide), sA_comm (j := 9) (k := 0) (by decide), sA_comm (j := 8) (k := 0) (by decide), sA_comm (j := 7) (k := 0) (by decide), sA_comm (j := 6) (k := 0) (by decide), sA_comm (j := 5) (k := 0) (by decide), sA_sA]; rw [show (sA (sA (sA (sA (sA (sA (sA (sA σ 0 (ua (ua (σ 0) 17 pu) 18 fr)) 5 S3) 6 K3) 7 L3) 8 E2) 9 W) 10 B) 14 Y) 0 = (ua (ua (σ 0) 17 pu) 18 fr) from rfl, ua_comm (i := 18) (k := 17) (by decide), ua_ua]; first | done | rfl) ?_
                                  refine hv_aload_n C 0 3 dX12_plugs_313 rfl rfl ?_
                                  refine hv_dup C dX12_plugs_314 rfl ?_
                                  refine mo_geti C K (x := fr) 18 (by decide) rfl mo_hw fl_262 rfl dX12_plugs_315 ?_
                                  refine hv_iload C 7 0 dX12_plugs_318 rfl ?_
                                  refine hv_if_eq C 327 dX12_plugs_320 (by decide) (by decide) (fun _ => ?_) (fun h => absurd h (by decide))
                                  refine hv_iconst C dX12_plugs_327 ?_
                                  refine hv_iadd C dX12_plugs_328 ?_
                                  refine mo_puti C K (σ2 := u2 (sA (sA (sA (sA (sA (sA (sA (sA σ 0 (ua (ua (σ 0) 17 (pu + 1)) 18 fr)) 5 S3) 6 K3) 7 L3) 8 E2) 9 W) 10 B) 14 Y) 0 18 (fr + 0)) 18 (by decide) rfl mo_hw fl_262 rfl rfl (ty := .int) (by decide +kernel) rfl rfl dX12_plugs_329 ?_
                                  refine mo_st (σ2 := sA (sA (sA (sA (sA (sA (sA (sA σ 0 (ua (ua (σ 0) 17 (pu + 1)) 18 (fr + 0))) 5 S3) 6 K3) 7 L3) 8 E2) 9 W) 10 B) 14 Y) (by rw [u2_sA, sA_comm (j := 14) (k := 0) (by decide), sA_comm (j := 10) (k := 0) (by decide), sA_comm (j := 9) (k := 0) (by decide), sA_comm (j := 8) (k := 0) (by decide), sA_comm (j := 7) (k := 0) (by decide), sA_comm (j := 6) (k := 0) (by decide), sA_comm (j := 5) (k := 0) (by decide), sA_sA]; rw [show (sA (sA (sA (sA (sA (sA (sA (sA σ 0 (ua (ua (σ 0) 17 (pu + 1)) 18 fr)) 5 S3) 6 K3) 7 L3) 8 E2) 9 W) 10 B) 14 Y) 0 = (ua (ua (σ 0) 17 (pu + 1)) 18 fr) from rfl, ua_ua]; first | done | rfl) ?_
                                  refine hv_iinc C 4 7 [(4, .int (iz (((k : Nat) : Int) + 1))), (7, .int (iz 0)), (6, .int (iz 1)), (5, .int (iz ((k % 12 : Nat) : Int))), (0, .ref a0), (1, .int (iz d)), (2, .int (iz t)), (3, .int (iz (((48 * d) + t) - 1)))] dX12_plugs_332 rfl (by decide) rfl ?_
                                  refine hv_goto C 137 dX12_plugs_335 (by decide) ?_
                                  refine hv_loc [4, 5, 6, 7, 0] [(0, .ref a0), (1, .int (iz d)), (2, .int (iz t)), (3, .int (iz (((48 * d) + t) - 1))), (4, .int (iz (((k : Nat) : Int) + 1)))] rfl ?_
                                  exact ih137 (k + 1) Y W B (pu + 1) (fr + 0) (by omega) (by omega) (by subst hY; subst hW; subst hB; subst hpu; subst hfr; first | (rw [pgY, if_pos ⟨zw9, zn9⟩]; first | done | rfl) | (rw [pgY, if_neg (fun z9 => zw9 z9.1)]; first | done | rfl) | (rw [pgY, if_neg (fun z9 => zn9 z9.2)]; first | done | rfl)) (by subst hY; subst hW; subst hB; subst hpu; subst hfr; first | (rw [pgW, if_neg (fun z9 => z9.1 ⟨fun _ => zn9, fun _ => zw9⟩)]; first | done | rfl) | (rw [pgW, if_neg (fun z9 => z9.1 ⟨fun a9 => absurd a9 zw9, fun a9 => absurd a9 zn9⟩)]; first | done | rfl) | (rw [pgW, if_pos ⟨fun z9 => zn9 (z9.1 zw9), by omega⟩]; first | done | rfl) | (rw [pgW, if_pos ⟨fun z9 => zw9 (z9.2 zn9), by omega⟩]; first | done | rfl) | (rw [pgW, if_neg (fun z9 => by have z8 := z9.2; omega)]; first | done | rfl)) (by subst hY; subst hW; subst hB; subst hpu; subst hfr; first | (rw [pgB, if_neg (fun z9 => z9.1 ⟨fun _ => zn9, fun _ => zw9⟩)]; first | done | rfl) | (rw [pgB, if_neg (fun z9 => z9.1 ⟨fun a9 => absurd a9 zw9, fun a9 => absurd a9 zn9⟩)]; first | done | rfl) | (rw [pgB, if_pos ⟨fun z9 => zn9 (z9.1 zw9), by omega⟩, if_neg zn9]; first | done | rfl) | (rw [pgB, if_pos ⟨fun z9 => zw9 (z9.2 zn9), by omega⟩, if_pos zn9]; first | done | rfl) | (rw [pgB, if_neg (fun z9 => by have z8 := z9.2; omega)]; first | done | rfl)) (by subst hY; subst hW; subst hB; subst hpu; subst hfr; first | (rw [pgu, if_pos ⟨zw9, zn9⟩]; first | done | rfl) | (rw [pgu, if_neg (fun z9 => zw9 z9.1)]; first | done | rfl) | (rw [pgu, if_neg (fun z9 => z9.2 zn9)]; first | done | rfl) | (rw [pgu, if_neg (fun z9 => zw9 z9.1), Int.add_zero]; first | done | rfl) | (rw [pgu, if_neg (fun z9 => z9.2 zn9), Int.add_zero]; first | done | rfl)) (by subst hY; subst hW; subst hB; subst hpu; subst hfr; first | (rw [pgf, if_pos ⟨zw9, zn9⟩]; first | done | rfl) | (rw [pgf, if_neg (fun z9 => z9.1 zw9)]; first | done | rfl) | (rw [pgf, if_neg (fun z9 => zn9 z9.2)]; first | done | rfl) | (rw [pgf, if_neg (fun z9 => z9.1 zw9), Int.add_zero]; first | done | rfl) | (rw [pgf, if_neg (fun z9 => zn9 z9.2), Int.add_zero]; first | done | rfl))
                                · skip
                                  refine hv_aload_n C 0 3 dX12_plugs_262 rfl rfl ?_
                                  refine mo_geta C K 19 9 (by decide) rfl mo_hw fl_35 rfl dX12_plugs_263 ?_
                                  refine hv_aload_n C 0 3 dX12_plugs_266 rfl rfl ?_
                                  refine mo_geti C K (x := pu) 17 (by decide) rfl mo_hw fl_259 rfl dX12_plugs_267 ?_
                                  refine hv_aload_n C 0 3 dX12_plugs_270 rfl rfl ?_
                                  refine mo_geti C K (x := fr) 18 (by decide) rfl mo_hw fl_262 rfl dX12_plugs_271 ?_
                                  refine hv_iadd C dX12_plugs_274 ?_
                                  refine hv_iload C 5 2 dX12_plugs_275 rfl ?_
                                  refine mo_iast C K 9 7 (((pu + fr) : Int)).toNat rfl (moW_set9 _ _ _ _ _ _) (by omega) (by omega) (by decide) dX12_plugs_277 ?_
                                  refine mo_st (σ2 := sA (sA (sA (sA (sA (sA (sA (sA σ 0 (ua (ua (σ 0) 17 pu) 18 fr)) 5 S3) 6 K3) 7 L3) 8 E2) 9 (ua W (((pu + fr) : Int)).toNat ((k % 12 : Nat) : Int))) 10 B) 14 Y) (by rw [u2_sA, sA_comm (j := 14) (k := 9) (by decide), sA_comm (j := 10) (k := 9) (by decide), sA_sA]; first | done | rfl) ?_
                                  refine hv_aload_n C 0 3 dX12_plugs_278 rfl rfl ?_
                                  refine mo_geta C K 20 10 (by decide) rfl mo_hw fl_38 rfl dX12_plugs_279 ?_
                                  refine hv_aload_n C 0 3 dX12_plugs_282 rfl rfl ?_
                                  refine mo_geti C K (x := pu) 17 (by decide) rfl mo_hw fl_259 rfl dX12_plugs_283 ?_
                                  refine hv_aload_n C 0 3 dX12_plugs_286 rfl rfl ?_
                                  refine mo_geti C K (x := fr) 18 (by decide) rfl mo_hw fl_262 rfl dX12_plugs_287 ?_
                                  refine hv_iadd C dX12_plugs_290 ?_
                                  refine hv_iload C 7 0 dX12_plugs_291 rfl ?_
                                  refine mo_zast C K 10 7 (((pu + fr) : Int)).toNat false rfl (moW_set10 _ _ _ _ _ _) (by omega) (by omega) (by decide) dX12_plugs_293 ?_
                                  refine mo_st (σ2 := sA (sA (sA (sA (sA (sA (sA (sA σ 0 (ua (ua (σ 0) 17 pu) 18 fr)) 5 S3) 6 K3) 7 L3) 8 E2) 9 (ua W (((pu + fr) : Int)).toNat ((k % 12 : Nat) : Int))) 10 (ua B (((pu + fr) : Int)).toNat (xb false))) 14 Y) (by rw [u2_sA, sA_comm (j := 14) (k := 10) (by decide), sA_sA]; first | done | rfl) ?_
                                  refine hv_aload_n C 0 3 dX12_plugs_294 rfl rfl ?_
                                  refine hv_dup C dX12_plugs_295 rfl ?_
                                  refine mo_geti C K (x := pu) 17 (by decide) rfl mo_hw fl_259 rfl dX12_plugs_296 ?_
                                  refine hv_iload C 6 1 dX12_plugs_299 rfl ?_
                                  refine hv_if_eq C 308 dX12_plugs_301 (by decide) (by decide) (fun h => absurd h (by decide)) (fun _ => ?_)
                                  refine hv_iconst C dX12_plugs_304 ?_
                                  refine hv_goto C 309 dX12_plugs_305 (by decide) ?_
                                  refine hv_iadd C dX12_plugs_309 ?_
                                  refine mo_puti C K (σ2 := u2 (sA (sA (sA (sA (sA (sA (sA (sA σ 0 (ua (ua (σ 0) 17 pu) 18 fr)) 5 S3) 6 K3) 7 L3) 8 E2) 9 (ua W (((pu + fr) : Int)).toNat ((k % 12 : Nat) : Int))) 10 (ua B (((pu + fr) : Int)).toNat (xb false))) 14 Y) 0 17 (pu + 1)) 17 (by decide) rfl mo_hw fl_259 rfl rfl (ty := .int) (by decide +kernel) rfl rfl dX12_plugs_310 ?_
                                  refine mo_st (σ2 := sA (sA (sA (sA (sA (sA (sA (sA σ 0 (ua (ua (σ 0) 17 (pu + 1)) 18 fr)) 5 S3) 6 K3) 7 L3) 8 E2) 9 (ua W (((pu + fr) : Int)).toNat ((k % 12 : Nat) : Int))) 10 (ua B (((pu + fr) : Int)).toNat (xb false))) 14 Y) (by rw [u2_sA, sA_comm (j := 14) (k := 0) (by decide), sA_comm (j := 10) (k := 0) (by decide), sA_comm (j := 9) (k := 0) (by decide), sA_comm (j := 8) (k := 0) (by decide), sA_comm (j := 7) (k := 0) (by decide), sA_comm (j := 6) (k := 0) (by decide), sA_comm (j := 5) (k := 0) (by decide), sA_sA]; rw [show (sA (sA (sA (sA (sA (sA (sA (sA σ 0 (ua (ua (σ 0) 17 pu) 18 fr)) 5 S3) 6 K3) 7 L3) 8 E2) 9 (ua W (((pu + fr) : Int)).toNat ((k % 12 : Nat) : Int))) 10 (ua B (((pu + fr) : Int)).toNat (xb false))) 14 Y) 0 = (ua (ua (σ 0) 17 pu) 18 fr) from rfl, ua_comm (i := 18) (k := 17) (by decide), ua_ua]; first | done | rfl) ?_
                                  refine hv_aload_n C 0 3 dX12_plugs_313 rfl rfl ?_
                                  refine hv_dup C dX12_plugs_314 rfl ?_
                                  refine mo_geti C K (x := fr) 18 (by decide) rfl mo_hw fl_262 rfl dX12_plugs_315 ?_
                                  refine hv_iload C 7 0 dX12_plugs_318 rfl ?_
                                  refine hv_if_eq C 327 dX12_plugs_320 (by decide) (by decide) (fun _ => ?_) (fun h => absurd h (by decide))
                                  refine hv_iconst C dX12_plugs_327 ?_
                                  refine hv_iadd C dX12_plugs_328 ?_
                                  refine mo_puti C K (σ2 := u2 (sA (sA (sA (sA (sA (sA (sA (sA σ 0 (ua (ua (σ 0) 17 (pu + 1)) 18 fr)) 5 S3) 6 K3) 7 L3) 8 E2) 9 (ua W (((pu + fr) : Int)).toNat ((k % 12 : Nat) : Int))) 10 (ua B (((pu + fr) : Int)).toNat (xb false))) 14 Y) 0 18 (fr + 0)) 18 (by decide) rfl mo_hw fl_262 rfl rfl (ty := .int) (by decide +kernel) rfl rfl dX12_plugs_329 ?_
                                  refine mo_st (σ2 := sA (sA (sA (sA (sA (sA (sA (sA σ 0 (ua (ua (σ 0) 17 (pu + 1)) 18 (fr + 0))) 5 S3) 6 K3) 7 L3) 8 E2) 9 (ua W (((pu + fr) : Int)).toNat ((k % 12 : Nat) : Int))) 10 (ua B (((pu + fr) : Int)).toNat (xb false))) 14 Y) (by rw [u2_sA, sA_comm (j := 14) (k := 0) (by decide), sA_comm (j := 10) (k := 0) (by decide), sA_comm (j := 9) (k := 0) (by decide), sA_comm (j := 8) (k := 0) (by decide), sA_comm (j := 7) (k := 0) (by decide), sA_comm (j := 6) (k := 0) (by decide), sA_comm (j := 5) (k := 0) (by decide), sA_sA]; rw [show (sA (sA (sA (sA (sA (sA (sA (sA σ 0 (ua (ua (σ 0) 17 (pu + 1)) 18 fr)) 5 S3) 6 K3) 7 L3) 8 E2) 9 (ua W (((pu + fr) : Int)).toNat ((k % 12 : Nat) : Int))) 10 (ua B (((pu + fr) : Int)).toNat (xb false))) 14 Y) 0 = (ua (ua (σ 0) 17 (pu + 1)) 18 fr) from rfl, ua_ua]; first | done | rfl) ?_
                                  refine hv_iinc C 4 7 [(4, .int (iz (((k : Nat) : Int) + 1))), (7, .int (iz 0)), (6, .int (iz 1)), (5, .int (iz ((k % 12 : Nat) : Int))), (0, .ref a0), (1, .int (iz d)), (2, .int (iz t)), (3, .int (iz (((48 * d) + t) - 1)))] dX12_plugs_332 rfl (by decide) rfl ?_
                                  refine hv_goto C 137 dX12_plugs_335 (by decide) ?_
                                  refine hv_loc [4, 5, 6, 7, 0] [(0, .ref a0), (1, .int (iz d)), (2, .int (iz t)), (3, .int (iz (((48 * d) + t) - 1))), (4, .int (iz (((k : Nat) : Int) + 1)))] rfl ?_
                                  exact ih137 (k + 1) Y (ua W (((pu + fr) : Int)).toNat ((k % 12 : Nat) : Int)) (ua B (((pu + fr) : Int)).toNat (xb false)) (pu + 1) (fr + 0) (by omega) (by omega) (by subst hY; subst hW; subst hB; subst hpu; subst hfr; first | (rw [pgY, if_pos ⟨zw9, zn9⟩]; first | done | rfl) | (rw [pgY, if_neg (fun z9 => zw9 z9.1)]; first | done | rfl) | (rw [pgY, if_neg (fun z9 => zn9 z9.2)]; first | done | rfl)) (by subst hY; subst hW; subst hB; subst hpu; subst hfr; first | (rw [pgW, if_neg (fun z9 => z9.1 ⟨fun _ => zn9, fun _ => zw9⟩)]; first | done | rfl) | (rw [pgW, if_neg (fun z9 => z9.1 ⟨fun a9 => absurd a9 zw9, fun a9 => absurd a9 zn9⟩)]; first | done | rfl) | (rw [pgW, if_pos ⟨fun z9 => zn9 (z9.1 zw9), by omega⟩]; first | done | rfl) | (rw [pgW, if_pos ⟨fun z9 => zw9 (z9.2 zn9), by omega⟩]; first | done | rfl) | (rw [pgW, if_neg (fun z9 => by have z8 := z9.2; omega)]; first | done | rfl)) (by subst hY; subst hW; subst hB; subst hpu; subst hfr; first | (rw [pgB, if_neg (fun z9 => z9.1 ⟨fun _ => zn9, fun _ => zw9⟩)]; first | done | rfl) | (rw [pgB, if_neg (fun z9 => z9.1 ⟨fun a9 => absurd a9 zw9, fun a9 => absurd a9 zn9⟩)]; first | done | rfl) | (rw [pgB, if_pos ⟨fun z9 => zn9 (z9.1 zw9), by omega⟩, if_neg zn9]; first | done | rfl) | (rw [pgB, if_pos ⟨fun z9 => zw9 (z9.2 zn9), by omega⟩, if_pos zn9]; first | done | rfl) | (rw [pgB, if_neg (fun z9 => by have z8 := z9.2; omega)]; first | done | rfl)) (by subst hY; subst hW; subst hB; subst hpu; subst hfr; first | (rw [pgu, if_pos ⟨zw9, zn9⟩]; first | done | rfl) | (rw [pgu, if_neg (fun z9 => zw9 z9.1)]; first | done | rfl) | (rw [pgu, if_neg (fun z9 => z9.2 zn9)]; first | done | rfl) | (rw [pgu, if_neg (fun z9 => zw9 z9.1), Int.add_zero]; first | done | rfl) | (rw [pgu, if_neg (fun z9 => z9.2 zn9), Int.add_zero]; first | done | rfl)) (by subst hY; subst hW; subst hB; subst hpu; subst hfr; first | (rw [pgf, if_pos ⟨zw9, zn9⟩]; first | done | rfl) | (rw [pgf, if_neg (fun z9 => z9.1 zw9)]; first | done | rfl) | (rw [pgf, if_neg (fun z9 => zn9 z9.2)]; first | done | rfl) | (rw [pgf, if_neg (fun z9 => z9.1 zw9), Int.add_zero]; first | done | rfl) | (rw [pgf, if_neg (fun z9 => zn9 z9.2), Int.add_zero]; first | done | rfl))
                              · skip
                                refine hv_aload_n C 0 2 dX12_plugs_191 rfl rfl ?_
                                refine mo_geta C K 13 5 (by decide) rfl mo_hw fl_23 rfl dX12_plugs_192 ?_
                                refine hv_iload C 4 6 dX12_plugs_195 rfl ?_
                                refine hv_bipush C dX12_plugs_197 (by decide) ?_
                                refine hv_idiv C (by omega) (by omega) (by omega) (by omega) dX12_plugs_199 ?_
                                refine hv_as (((k / 12 : Nat) : Int)) (by omega) ?_
                                refine mo_iald C K 5 24 (k / 12) rfl (by omega) (by omega) (by decide) dX12_plugs_200 ?_
                                refine hv_as (S3 (k / 12)) rfl ?_
                                refine hv_iload C 5 1 dX12_plugs_201 rfl ?_
                                refine hv_ishr C (k % 12) (by omega) (by omega) (by omega) dX12_plugs_203 ?_
                                refine hv_iconst C dX12_plugs_204 ?_
                                refine hv_imsk C 1 (by decide) (by decide) dX12_plugs_205 ?_
                                refine hv_iconst C dX12_plugs_206 ?_
                                refine hv_icmp_ne C 214 dX12_plugs_207 (by decide) (by omega) (by omega) (fun h207 => ?_) (fun h207 => ?_)
                                · skip
                                  refine hv_iconst C dX12_plugs_214 ?_
                                  refine hv_istore C 7 [(7, .int (iz 0)), (6, .int (iz 1)), (5, .int (iz ((k % 12 : Nat) : Int))), (0, .ref a0), (1, .int (iz d)), (2, .int (iz t)), (3, .int (iz (((48 * d) + t) - 1))), (4, .int (iz ((k : Nat) : Int)))] dX12_plugs_215 (by decide) rfl ?_
                                  have zw9 : (pgw E2 k) := h168
                                  have zn9 : ¬ (pgn S3 k) := by intro z9; first | exact h207 z9.2 | exact absurd z9.1 (by omega)
                                  refine hv_iload C 6 1 dX12_plugs_217 rfl ?_
                                  refine hv_if_eq C 238 dX12_plugs_219 (by decide) (by decide) (fun h => absurd h (by decide)) (fun _ => ?_)
                                  refine hv_iload C 7 0 dX12_plugs_222 rfl ?_
                                  refine hv_if_eq C 238 dX12_plugs_224 (by decide) (by decide) (fun _ => ?_) (fun h => absurd h (by decide))
                                  refine hv_iload C 6 1 dX12_plugs_238 rfl ?_
                                  refine hv_iload C 7 0 dX12_plugs_240 rfl ?_
                                  refine hv_icmp_ne C 248 dX12_plugs_242 (by decide) (by decide) (by decide) (fun _ => ?_) (fun h => absurd h (by decide))
                                  refine hv_aload_n C 0 3 dX12_plugs_248 rfl rfl ?_
                                  refine mo_geti C K (x := pu) 17 (by decide) rfl mo_hw fl_259 rfl dX12_plugs_249 ?_
                                  refine hv_aload_n C 0 3 dX12_plugs_252 rfl rfl ?_
                                  refine mo_geti C K (x := fr) 18 (by decide) rfl mo_hw fl_262 rfl dX12_plugs_253 ?_
                                  refine hv_iadd C dX12_plugs_256 ?_
                                  refine hv_bipush C dX12_plugs_257 (by decide) ?_
                                  refine hv_icmp_ge C 294 dX12_plugs_259 (by decide) (by omega) (by omega) (fun h259 => ?_) (fun h259 => ?_)
                                  · skip
                                    refine hv_aload_n C 0 3 dX12_plugs_294 rfl rfl ?_
                                    refine hv_dup C dX12_plugs_295 rfl ?_
                                    refine mo_geti C K (x := pu) 17 (by decide) rfl mo_hw fl_259 rfl dX12_plugs_296 ?_
                                    refine hv_iload C 6 1 dX12_plugs_299 rfl ?_
                                    refine hv_if_eq C 308 dX12_plugs_301 (by decide) (by decide) (fun h => absurd h (by decide)) (fun _ => ?_)
                                    refine hv_iconst C dX12_plugs_304 ?_
                                    refine hv_goto C 309 dX12_plugs_305 (by decide) ?_
                                    refine hv_iadd C dX12_plugs_309 ?_
                                    refine mo_puti C K (σ2 := u2 (sA (sA (sA (sA (sA (sA (sA (sA σ 0 (ua (ua (σ 0) 17 pu) 18 fr)) 5 S3) 6 K3) 7 L3) 8 E2) 9 W) 10 B) 14 Y) 0 17 (pu + 1)) 17 (by decide) rfl mo_hw fl_259 rfl rfl (ty := .int) (by decide +kernel) rfl rfl dX12_plugs_310 ?_
                                    refine mo_st (σ2 := sA (sA (sA (sA (sA (sA (sA (sA σ 0 (ua (ua (σ 0) 17 (pu + 1)) 18 fr)) 5 S3) 6 K3) 7 L3) 8 E2) 9 W) 10 B) 14 Y) (by rw [u2_sA, sA_comm (j := 14) (k := 0) (by decide), sA_comm (j := 10) (k := 0) (by decide), sA_comm (j := 9) (k := 0) (by decide), sA_comm (j := 8) (k := 0) (by decide), sA_comm (j := 7) (k := 0) (by decide), sA_comm (j := 6) (k := 0) (by decide), sA_comm (j := 5) (k := 0) (by decide), sA_sA]; rw [show (sA (sA (sA (sA (sA (sA (sA (sA σ 0 (ua (ua (σ 0) 17 pu) 18 fr)) 5 S3) 6 K3) 7 L3) 8 E2) 9 W) 10 B) 14 Y) 0 = (ua (ua (σ 0) 17 pu) 18 fr) from rfl, ua_comm (i := 18) (k := 17) (by decide), ua_ua]; first | done | rfl) ?_
                                    refine hv_aload_n C 0 3 dX12_plugs_313 rfl rfl ?_
                                    refine hv_dup C dX12_plugs_314 rfl ?_
                                    refine mo_geti C K (x := fr) 18 (by decide) rfl mo_hw fl_262 rfl dX12_plugs_315 ?_
                                    refine hv_iload C 7 0 dX12_plugs_318 rfl ?_
                                    refine hv_if_eq C 327 dX12_plugs_320 (by decide) (by decide) (fun _ => ?_) (fun h => absurd h (by decide))
                                    refine hv_iconst C dX12_plugs_327 ?_
                                    refine hv_iadd C dX12_plugs_328 ?_
                                    refine mo_puti C K (σ2 := u2 (sA (sA (sA (sA (sA (sA (sA (sA σ 0 (ua (ua (σ 0) 17 (pu + 1)) 18 fr)) 5 S3) 6 K3) 7 L3) 8 E2) 9 W) 10 B) 14 Y) 0 18 (fr + 0)) 18 (by decide) rfl mo_hw fl_262 rfl rfl (ty := .int) (by decide +kernel) rfl rfl dX12_plugs_329 ?_
                                    refine mo_st (σ2 := sA (sA (sA (sA (sA (sA (sA (sA σ 0 (ua (ua (σ 0) 17 (pu + 1)) 18 (fr + 0))) 5 S3) 6 K3) 7 L3) 8 E2) 9 W) 10 B) 14 Y) (by rw [u2_sA, sA_comm (j := 14) (k := 0) (by decide), sA_comm (j := 10) (k := 0) (by decide), sA_comm (j := 9) (k := 0) (by decide), sA_comm (j := 8) (k := 0) (by decide), sA_comm (j := 7) (k := 0) (by decide), sA_comm (j := 6) (k := 0) (by decide), sA_comm (j := 5) (k := 0) (by decide), sA_sA]; rw [show (sA (sA (sA (sA (sA (sA (sA (sA σ 0 (ua (ua (σ 0) 17 (pu + 1)) 18 fr)) 5 S3) 6 K3) 7 L3) 8 E2) 9 W) 10 B) 14 Y) 0 = (ua (ua (σ 0) 17 (pu + 1)) 18 fr) from rfl, ua_ua]; first | done | rfl) ?_
                                    refine hv_iinc C 4 7 [(4, .int (iz (((k : Nat) : Int) + 1))), (7, .int (iz 0)), (6, .int (iz 1)), (5, .int (iz ((k % 12 : Nat) : Int))), (0, .ref a0), (1, .int (iz d)), (2, .int (iz t)), (3, .int (iz (((48 * d) + t) - 1)))] dX12_plugs_332 rfl (by decide) rfl ?_
                                    refine hv_goto C 137 dX12_plugs_335 (by decide) ?_
                                    refine hv_loc [4, 5, 6, 7, 0] [(0, .ref a0), (1, .int (iz d)), (2, .int (iz t)), (3, .int (iz (((48 * d) + t) - 1))), (4, .int (iz (((k : Nat) : Int) + 1)))] rfl ?_
                                    exact ih137 (k + 1) Y W B (pu + 1) (fr + 0) (by omega) (by omega) (by subst hY; subst hW; subst hB; subst hpu; subst hfr; first | (rw [pgY, if_pos ⟨zw9, zn9⟩]; first | done | rfl) | (rw [pgY, if_neg (fun z9 => zw9 z9.1)]; first | done | rfl) | (rw [pgY, if_neg (fun z9 => zn9 z9.2)]; first | done | rfl)) (by subst hY; subst hW; subst hB; subst hpu; subst hfr; first | (rw [pgW, if_neg (fun z9 => z9.1 ⟨fun _ => zn9, fun _ => zw9⟩)]; first | done | rfl) | (rw [pgW, if_neg (fun z9 => z9.1 ⟨fun a9 => absurd a9 zw9, fun a9 => absurd a9 zn9⟩)]; first | done | rfl) | (rw [pgW, if_pos ⟨fun z9 => zn9 (z9.1 zw9), by omega⟩]; first | done | rfl) | (rw [pgW, if_pos ⟨fun z9 => zw9 (z9.2 zn9), by omega⟩]; first | done | rfl) | (rw [pgW, if_neg (fun z9 => by have z8 := z9.2; omega)]; first | done | rfl)) (by subst hY; subst hW; subst hB; subst hpu; subst hfr; first | (rw [pgB, if_neg (fun z9 => z9.1 ⟨fun _ => zn9, fun _ => zw9⟩)]; first | done | rfl) | (rw [pgB, if_neg (fun z9 => z9.1 ⟨fun a9 => absurd a9 zw9, fun a9 => absurd a9 zn9⟩)]; first | done | rfl) | (rw [pgB, if_pos ⟨fun z9 => zn9 (z9.1 zw9), by omega⟩, if_neg zn9]; first | done | rfl) | (rw [pgB, if_pos ⟨fun z9 => zw9 (z9.2 zn9), by omega⟩, if_pos zn9]; first | done | rfl) | (rw [pgB, if_neg (fun z9 => by have z8 := z9.2; omega)]; first | done | rfl)) (by subst hY; subst hW; subst hB; subst hpu; subst hfr; first | (rw [pgu, if_pos ⟨zw9, zn9⟩]; first | done | rfl) | (rw [pgu, if_neg (fun z9 => zw9 z9.1)]; first | done | rfl) | (rw [pgu, if_neg (fun z9 => z9.2 zn9)]; first | done | rfl) | (rw [pgu, if_neg (fun z9 => zw9 z9.1), Int.add_zero]; first | done | rfl) | (rw [pgu, if_neg (fun z9 => z9.2 zn9), Int.add_zero]; first | done | rfl)) (by subst hY; subst hW; subst hB; subst hpu; subst hfr; first | (rw [pgf, if_pos ⟨zw9, zn9⟩]; first | done | rfl) | (rw [pgf, if_neg (fun z9 => z9.1 zw9)]; first | done | rfl) | (rw [pgf, if_neg (fun z9 => zn9 z9.2)]; first | done | rfl) | (rw [pgf, if_neg (fun z9 => z9.1 zw9), Int.add_zero]; first | done | rfl) | (rw [pgf, if_neg (fun z9 => zn9 z9.2), Int.add_zero]; first | done | rfl))
                                  · skip
                                    refine hv_aload_n C 0 3 dX12_plugs_262 rfl rfl ?_
                                    refine mo_geta C K 19 9 (by decide) rfl mo_hw fl_35 rfl dX12_plugs_263 ?_
                                    refine hv_aload_n C 0 3 dX12_plugs_266 rfl rfl ?_
                                    refine mo_geti C K (x := pu) 17 (by decide) rfl mo_hw fl_259 rfl dX12_plugs_267 ?_
                                    refine hv_aload_n C 0 3 dX12_plugs_270 rfl rfl ?_
                                    refine mo_geti C K (x := fr) 18 (by decide) rfl mo_hw fl_262 rfl dX12_plugs_271 ?_
                                    refine hv_iadd C dX12_plugs_274 ?_
                                    refine hv_iload C 5 2 dX12_plugs_275 rfl ?_
                                    refine mo_iast C K 9 7 (((pu + fr) : Int)).toNat rfl (moW_set9 _ _ _ _ _ _) (by omega) (by omega) (by decide) dX12_plugs_277 ?_
                                    refine mo_st (σ2 := sA (sA (sA (sA (sA (sA (sA (sA σ 0 (ua (ua (σ 0) 17 pu) 18 fr)) 5 S3) 6 K3) 7 L3) 8 E2) 9 (ua W (((pu + fr) : Int)).toNat ((k % 12 : Nat) : Int))) 10 B) 14 Y) (by rw [u2_sA, sA_comm (j := 14) (k := 9) (by decide), sA_comm (j := 10) (k := 9) (by decide), sA_sA]; first | done | rfl) ?_
                                    refine hv_aload_n C 0 3 dX12_plugs_278 rfl rfl ?_
                                    refine mo_geta C K 20 10 (by decide) rfl mo_hw fl_38 rfl dX12_plugs_279 ?_
                                    refine hv_aload_n C 0 3 dX12_plugs_282 rfl rfl ?_
                                    refine mo_geti C K (x := pu) 17 (by decide) rfl mo_hw fl_259 rfl dX12_plugs_283 ?_
                                    refine hv_aload_n C 0 3 dX12_plugs_286 rfl rfl ?_
                                    refine mo_geti C K (x := fr) 18 (by decide) rfl mo_hw fl_262 rfl dX12_plugs_287 ?_
                                    refine hv_iadd C dX12_plugs_290 ?_
                                    refine hv_iload C 7 0 dX12_plugs_291 rfl ?_
                                    refine mo_zast C K 10 7 (((pu + fr) : Int)).toNat false rfl (moW_set10 _ _ _ _ _ _) (by omega) (by omega) (by decide) dX12_plugs_293 ?_
                                    refine mo_st (σ2 := sA (sA (sA (sA (sA (sA (sA (sA σ 0 (ua (ua (σ 0) 17 pu) 18 fr)) 5 S3) 6 K3) 7 L3) 8 E2) 9 (ua W (((pu + fr) : Int)).toNat ((k % 12 : Nat) : Int))) 10 (ua B (((pu + fr) : Int)).toNat (xb false))) 14 Y) (by rw [u2_sA, sA_comm (j := 14) (k := 10) (by decide), sA_sA]; first | done | rfl) ?_
                                    refine hv_aload_n C 0 3 dX12_plugs_294 rfl rfl ?_
                                    refine hv_dup C dX12_plugs_295 rfl ?_
                                    refine mo_geti C K (x := pu) 17 (by decide) rfl mo_hw fl_259 rfl dX12_plugs_296 ?_
                                    refine hv_iload C 6 1 dX12_plugs_299 rfl ?_
                                    refine hv_if_eq C 308 dX12_plugs_301 (by decide) (by decide) (fun h => absurd h (by decide)) (fun _ => ?_)
                                    refine hv_iconst C dX12_plugs_304 ?_
                                    refine hv_goto C 309 dX12_plugs_305 (by decide) ?_
                                    refine hv_iadd C dX12_plugs_309 ?_
                                    refine mo_puti C K (σ2 := u2 (sA (sA (sA (sA (sA (sA (sA (sA σ 0 (ua (ua (σ 0) 17 pu) 18 fr)) 5 S3) 6 K3) 7 L3) 8 E2) 9 (ua W (((pu + fr) : Int)).toNat ((k % 12 : Nat) : Int))) 10 (ua B (((pu + fr) : Int)).toNat (xb false))) 14 Y) 0 17 (pu + 1)) 17 (by decide) rfl mo_hw fl_259 rfl rfl (ty := .int) (by decide +kernel) rfl rfl dX12_plugs_310 ?_
                                    refine mo_st (σ2 := sA (sA (sA (sA (sA (sA (sA (sA σ 0 (ua (ua (σ 0) 17 (pu + 1)) 18 fr)) 5 S3) 6 K3) 7 L3) 8 E2) 9 (ua W (((pu + fr) : Int)).toNat ((k % 12 : Nat) : Int))) 10 (ua B (((pu + fr) : Int)).toNat (xb false))) 14 Y) (by rw [u2_sA, sA_comm (j := 14) (k := 0) (by decide), sA_comm (j := 10) (k := 0) (by decide), sA_comm (j := 9) (k := 0) (by decide), sA_comm (j := 8) (k := 0) (by decide), sA_comm (j := 7) (k := 0) (by decide), sA_comm (j := 6) (k := 0) (by decide), sA_comm (j := 5) (k := 0) (by decide), sA_sA]; rw [show (sA (sA (sA (sA (sA (sA (sA (sA σ 0 (ua (ua (σ 0) 17 pu) 18 fr)) 5 S3) 6 K3) 7 L3) 8 E2) 9 (ua W (((pu + fr) : Int)).toNat ((k % 12 : Nat) : Int))) 10 (ua B (((pu + fr) : Int)).toNat (xb false))) 14 Y) 0 = (ua (ua (σ 0) 17 pu) 18 fr) from rfl, ua_comm (i := 18) (k := 17) (by decide), ua_ua]; first | done | rfl) ?_
                                    refine hv_aload_n C 0 3 dX12_plugs_313 rfl rfl ?_
                                    refine hv_dup C dX12_plugs_314 rfl ?_
                                    refine mo_geti C K (x := fr) 18 (by decide) rfl mo_hw fl_262 rfl dX12_plugs_315 ?_
                                    refine hv_iload C 7 0 dX12_plugs_318 rfl ?_
                                    refine hv_if_eq C 327 dX12_plugs_320 (by decide) (by decide) (fun _ => ?_) (fun h => absurd h (by decide))
                                    refine hv_iconst C dX12_plugs_327 ?_
                                    refine hv_iadd C dX12_plugs_328 ?_
                                    refine mo_puti C K (σ2 := u2 (sA (sA (sA (sA (sA (sA (sA (sA σ 0 (ua (ua (σ 0) 17 (pu + 1)) 18 fr)) 5 S3) 6 K3) 7 L3) 8 E2) 9 (ua W (((pu + fr) : Int)).toNat ((k % 12 : Nat) : Int))) 10 (ua B (((pu + fr) : Int)).toNat (xb false))) 14 Y) 0 18 (fr + 0)) 18 (by decide) rfl mo_hw fl_262 rfl rfl (ty := .int) (by decide +kernel) rfl rfl dX12_plugs_329 ?_
                                    refine mo_st (σ2 := sA (sA (sA (sA (sA (sA (sA (sA σ 0 (ua (ua (σ 0) 17 (pu + 1)) 18 (fr + 0))) 5 S3) 6 K3) 7 L3) 8 E2) 9 (ua W (((pu + fr) : Int)).toNat ((k % 12 : Nat) : Int))) 10 (ua B (((pu + fr) : Int)).toNat (xb false))) 14 Y) (by rw [u2_sA, sA_comm (j := 14) (k := 0) (by decide), sA_comm (j := 10) (k := 0) (by decide), sA_comm (j := 9) (k := 0) (by decide), sA_comm (j := 8) (k := 0) (by decide), sA_comm (j := 7) (k := 0) (by decide), sA_comm (j := 6) (k := 0) (by decide), sA_comm (j := 5) (k := 0) (by decide), sA_sA]; rw [show (sA (sA (sA (sA (sA (sA (sA (sA σ 0 (ua (ua (σ 0) 17 (pu + 1)) 18 fr)) 5 S3) 6 K3) 7 L3) 8 E2) 9 (ua W (((pu + fr) : Int)).toNat ((k % 12 : Nat) : Int))) 10 (ua B (((pu + fr) : Int)).toNat (xb false))) 14 Y) 0 = (ua (ua (σ 0) 17 (pu + 1)) 18 fr) from rfl, ua_ua]; first | done | rfl) ?_
                                    refine hv_iinc C 4 7 [(4, .int (iz (((k : Nat) : Int) + 1))), (7, .int (iz 0)), (6, .int (iz 1)), (5, .int (iz ((k % 12 : Nat) : Int))), (0, .ref a0), (1, .int (iz d)), (2, .int (iz t)), (3, .int (iz (((48 * d) + t) - 1)))] dX12_plugs_332 rfl (by decide) rfl ?_
                                    refine hv_goto C 137 dX12_plugs_335 (by decide) ?_
                                    refine hv_loc [4, 5, 6, 7, 0] [(0, .ref a0), (1, .int (iz d)), (2, .int (iz t)), (3, .int (iz (((48 * d) + t) - 1))), (4, .int (iz (((k : Nat) : Int) + 1)))] rfl ?_
                                    exact ih137 (k + 1) Y (ua W (((pu + fr) : Int)).toNat ((k % 12 : Nat) : Int)) (ua B (((pu + fr) : Int)).toNat (xb false)) (pu + 1) (fr + 0) (by omega) (by omega) (by subst hY; subst hW; subst hB; subst hpu; subst hfr; first | (rw [pgY, if_pos ⟨zw9, zn9⟩]; first | done | rfl) | (rw [pgY, if_neg (fun z9 => zw9 z9.1)]; first | done | rfl) | (rw [pgY, if_neg (fun z9 => zn9 z9.2)]; first | done | rfl)) (by subst hY; subst hW; subst hB; subst hpu; subst hfr; first | (rw [pgW, if_neg (fun z9 => z9.1 ⟨fun _ => zn9, fun _ => zw9⟩)]; first | done | rfl) | (rw [pgW, if_neg (fun z9 => z9.1 ⟨fun a9 => absurd a9 zw9, fun a9 => absurd a9 zn9⟩)]; first | done | rfl) | (rw [pgW, if_pos ⟨fun z9 => zn9 (z9.1 zw9), by omega⟩]; first | done | rfl) | (rw [pgW, if_pos ⟨fun z9 => zw9 (z9.2 zn9), by omega⟩]; first | done | rfl) | (rw [pgW, if_neg (fun z9 => by have z8 := z9.2; omega)]; first | done | rfl)) (by subst hY; subst hW; subst hB; subst hpu; subst hfr; first | (rw [pgB, if_neg (fun z9 => z9.1 ⟨fun _ => zn9, fun _ => zw9⟩)]; first | done | rfl) | (rw [pgB, if_neg (fun z9 => z9.1 ⟨fun a9 => absurd a9 zw9, fun a9 => absurd a9 zn9⟩)]; first | done | rfl) | (rw [pgB, if_pos ⟨fun z9 => zn9 (z9.1 zw9), by omega⟩, if_neg zn9]; first | done | rfl) | (rw [pgB, if_pos ⟨fun z9 => zw9 (z9.2 zn9), by omega⟩, if_pos zn9]; first | done | rfl) | (rw [pgB, if_neg (fun z9 => by have z8 := z9.2; omega)]; first | done | rfl)) (by subst hY; subst hW; subst hB; subst hpu; subst hfr; first | (rw [pgu, if_pos ⟨zw9, zn9⟩]; first | done | rfl) | (rw [pgu, if_neg (fun z9 => zw9 z9.1)]; first | done | rfl) | (rw [pgu, if_neg (fun z9 => z9.2 zn9)]; first | done | rfl) | (rw [pgu, if_neg (fun z9 => zw9 z9.1), Int.add_zero]; first | done | rfl) | (rw [pgu, if_neg (fun z9 => z9.2 zn9), Int.add_zero]; first | done | rfl)) (by subst hY; subst hW; subst hB; subst hpu; subst hfr; first | (rw [pgf, if_pos ⟨zw9, zn9⟩]; first | done | rfl) | (rw [pgf, if_neg (fun z9 => z9.1 zw9)]; first | done | rfl) | (rw [pgf, if_neg (fun z9 => zn9 z9.2)]; first | done | rfl) | (rw [pgf, if_neg (fun z9 => z9.1 zw9), Int.add_zero]; first | done | rfl) | (rw [pgf, if_neg (fun z9 => zn9 z9.2), Int.add_zero]; first | done | rfl))
                                · skip
                                  refine hv_iconst C dX12_plugs_210 ?_
                                  refine hv_goto C 215 dX12_plugs_211 (by decide) ?_
                                  refine hv_istore C 7 [(7, .int (iz 1)), (6, .int (iz 1)), (5, .int (iz ((k % 12 : Nat) : Int))), (0, .ref a0), (1, .int (iz d)), (2, .int (iz t)), (3, .int (iz (((48 * d) + t) - 1))), (4, .int (iz ((k : Nat) : Int)))] dX12_plugs_215 (by decide) rfl ?_
                                  have zw9 : (pgw E2 k) := h168
                                  have zn9 : (pgn S3 k) := ⟨h188, h207⟩
                                  refine hv_iload C 6 1 dX12_plugs_217 rfl ?_
                                  refine hv_if_eq C 238 dX12_plugs_219 (by decide) (by decide) (fun h => absurd h (by decide)) (fun _ => ?_)
                                  refine hv_iload C 7 0 dX12_plugs_222 rfl ?_
                                  refine hv_if_eq C 238 dX12_plugs_224 (by decide) (by decide) (fun h => absurd h (by decide)) (fun _ => ?_)
                                  refine hv_aload_n C 0 3 dX12_plugs_227 rfl rfl ?_
                                  refine mo_geta C K 24 14 (by decide) rfl mo_hw fl_50 rfl dX12_plugs_228 ?_
                                  refine hv_iload C 5 2 dX12_plugs_231 rfl ?_
                                  refine hv_dup2 C dX12_plugs_233 rfl rfl ?_
                                  refine mo_iald C K 14 12 (k % 12) rfl (by omega) (by omega) (by decide) dX12_plugs_234 ?_
                                  refine hv_as (Y (k % 12)) rfl ?_
                                  refine hv_iconst C dX12_plugs_235 ?_
                                  refine hv_iadd C dX12_plugs_236 ?_
                                  refine mo_iast C K 14 12 (k % 12) rfl (moW_set14 _ _ _ _ _ _) (by omega) (by omega) (by decide) dX12_plugs_237 ?_
                                  refine mo_st (σ2 := sA (sA (sA (sA (sA (sA (sA (sA σ 0 (ua (ua (σ 0) 17 pu) 18 fr)) 5 S3) 6 K3) 7 L3) 8 E2) 9 W) 10 B) 14 (ua Y (k % 12) ((Y (k % 12)) + 1))) (by rw [u2_sA, sA_sA]; first | done | rfl) ?_
                                  refine hv_iload C 6 1 dX12_plugs_238 rfl ?_
                                  refine hv_iload C 7 0 dX12_plugs_240 rfl ?_
                                  refine hv_icmp_ne C 248 dX12_plugs_242 (by decide) (by decide) (by decide) (fun h => absurd h (by decide)) (fun _ => ?_)
                                  refine hv_goto C 332 dX12_plugs_245 (by decide) ?_
                                  refine hv_iinc C 4 7 [(4, .int (iz (((k : Nat) : Int) + 1))), (7, .int (iz 1)), (6, .int (iz 1)), (5, .int (iz ((k % 12 : Nat) : Int))), (0, .ref a0), (1, .int (iz d)), (2, .int (iz t)), (3, .int (iz (((48 * d) + t) - 1)))] dX12_plugs_332 rfl (by decide) rfl ?_
                                  refine hv_goto C 137 dX12_plugs_335 (by decide) ?_
                                  refine hv_loc [4, 5, 6, 7, 0] [(0, .ref a0), (1, .int (iz d)), (2, .int (iz t)), (3, .int (iz (((48 * d) + t) - 1))), (4, .int (iz (((k : Nat) : Int) + 1)))] rfl ?_
                                  exact ih137 (k + 1) (ua Y (k % 12) ((Y (k % 12)) + 1)) W B pu fr (by omega) (by omega) (by subst hY; subst hW; subst hB; subst hpu; subst hfr; first | (rw [pgY, if_pos ⟨zw9, zn9⟩]; first | done | rfl) | (rw [pgY, if_neg (fun z9 => zw9 z9.1)]; first | done | rfl) | (rw [pgY, if_neg (fun z9 => zn9 z9.2)]; first | done | rfl)) (by subst hY; subst hW; subst hB; subst hpu; subst hfr; first | (rw [pgW, if_neg (fun z9 => z9.1 ⟨fun _ => zn9, fun _ => zw9⟩)]; first | done | rfl) | (rw [pgW, if_neg (fun z9 => z9.1 ⟨fun a9 => absurd a9 zw9, fun a9 => absurd a9 zn9⟩)]; first | done | rfl) | (rw [pgW, if_pos ⟨fun z9 => zn9 (z9.1 zw9), by omega⟩]; first | done | rfl) | (rw [pgW, if_pos ⟨fun z9 => zw9 (z9.2 zn9), by omega⟩]; first | done | rfl) | (rw [pgW, if_neg (fun z9 => by have z8 := z9.2; omega)]; first | done | rfl)) (by subst hY; subst hW; subst hB; subst hpu; subst hfr; first | (rw [pgB, if_neg (fun z9 => z9.1 ⟨fun _ => zn9, fun _ => zw9⟩)]; first | done | rfl) | (rw [pgB, if_neg (fun z9 => z9.1 ⟨fun a9 => absurd a9 zw9, fun a9 => absurd a9 zn9⟩)]; first | done | rfl) | (rw [pgB, if_pos ⟨fun z9 => zn9 (z9.1 zw9), by omega⟩, if_neg zn9]; first | done | rfl) | (rw [pgB, if_pos ⟨fun z9 => zw9 (z9.2 zn9), by omega⟩, if_pos zn9]; first | done | rfl) | (rw [pgB, if_neg (fun z9 => by have z8 := z9.2; omega)]; first | done | rfl)) (by subst hY; subst hW; subst hB; subst hpu; subst hfr; first | (rw [pgu, if_pos ⟨zw9, zn9⟩]; first | done | rfl) | (rw [pgu, if_neg (fun z9 => zw9 z9.1)]; first | done | rfl) | (rw [pgu, if_neg (fun z9 => z9.2 zn9)]; first | done | rfl) | (rw [pgu, if_neg (fun z9 => zw9 z9.1), Int.add_zero]; first | done | rfl) | (rw [pgu, if_neg (fun z9 => z9.2 zn9), Int.add_zero]; first | done | rfl)) (by subst hY; subst hW; subst hB; subst hpu; subst hfr; first | (rw [pgf, if_pos ⟨zw9, zn9⟩]; first | done | rfl) | (rw [pgf, if_neg (fun z9 => z9.1 zw9)]; first | done | rfl) | (rw [pgf, if_neg (fun z9 => zn9 z9.2)]; first | done | rfl) | (rw [pgf, if_neg (fun z9 => z9.1 zw9), Int.add_zero]; first | done | rfl) | (rw [pgf, if_neg (fun z9 => zn9 z9.2), Int.add_zero]; first | done | rfl))
                      refine hv_loc [1, 2, 3, 4, 0] [(0, .ref a0), (1, .int (iz d)), (2, .int (iz t)), (3, .int (iz (((48 * d) + t) - 1))), (4, .int (iz 0))] rfl ?_
                      refine mo_st (σ2 := sA (sA (sA (sA (sA (sA (sA σ 0 (ua (ua (σ 0) 17 0) 18 0)) 5 S3) 6 K3) 7 L3) 8 E2) 9 (σ 9)) 14 Y1) ((sA_id (sA (sA (sA (sA (sA (sA σ 0 (ua (ua (σ 0) 17 0) 18 0)) 5 S3) 6 K3) 7 L3) 8 E2) 14 Y1) 9).symm.trans (by rw [sA_comm (j := 14) (k := 9) (by decide)]; first | done | rfl)) ?_
                      refine mo_st (σ2 := sA (sA (sA (sA (sA (sA (sA (sA σ 0 (ua (ua (σ 0) 17 0) 18 0)) 5 S3) 6 K3) 7 L3) 8 E2) 9 (σ 9)) 10 (σ 10)) 14 Y1) ((sA_id (sA (sA (sA (sA (sA (sA (sA σ 0 (ua (ua (σ 0) 17 0) 18 0)) 5 S3) 6 K3) 7 L3) 8 E2) 9 (σ 9)) 14 Y1) 10).symm.trans (by rw [sA_comm (j := 14) (k := 10) (by decide)]; first | done | rfl)) ?_
                      exact L137 _ 0 Y1 (σ 9) (σ 10) 0 0 (Nat.lt_succ_self _) (by omega) rfl rfl rfl rfl rfl
                    · skip
                      refine hv_aload_n C 0 0 dX12_plugs_120 rfl rfl ?_
                      refine mo_geta C K 24 14 (by decide) rfl mo_hw fl_50 rfl dX12_plugs_121 ?_
                      refine hv_iload C 4 4 dX12_plugs_124 rfl ?_
                      refine hv_iconst C dX12_plugs_126 ?_
                      refine mo_iast C K 14 12 w rfl (moW_set14 _ _ _ _ _ _) (by omega) (by omega) (by decide) dX12_plugs_127 ?_
                      refine mo_st (σ2 := sA (sA (sA (sA (sA (sA σ 0 (ua (ua (σ 0) 17 0) 18 0)) 5 S3) 6 K3) 7 L3) 8 E2) 14 (ua Y1 w 0)) (by rw [u2_sA, sA_sA]; first | done | rfl) ?_
                      refine hv_iinc C 4 4 [(4, .int (iz (((w : Nat) : Int) + 1))), (0, .ref a0), (1, .int (iz d)), (2, .int (iz t)), (3, .int (iz (((48 * d) + t) - 1)))] dX12_plugs_128 rfl (by decide) rfl ?_
                      refine hv_goto C 113 dX12_plugs_131 (by decide) ?_
                      refine hv_loc [1, 2, 3, 4, 0] [(0, .ref a0), (1, .int (iz d)), (2, .int (iz t)), (3, .int (iz (((48 * d) + t) - 1))), (4, .int (iz (((w : Nat) : Int) + 1)))] rfl ?_
                      exact ih113 (w + 1) (ua Y1 w 0) (by omega) (by omega) (by rw [hY1]; rfl)
                refine hv_loc [1, 2, 3, 4, 0] [(0, .ref a0), (1, .int (iz d)), (2, .int (iz t)), (3, .int (iz (((48 * d) + t) - 1))), (4, .int (iz 0))] rfl ?_
                refine mo_st (σ2 := sA (sA (sA (sA (sA (sA σ 0 (ua (ua (σ 0) 17 0) 18 0)) 5 S3) 6 K3) 7 L3) 8 E2) 14 (σ 14)) ((sA_id (sA (sA (sA (sA (sA σ 0 (ua (ua (σ 0) 17 0) 18 0)) 5 S3) 6 K3) 7 L3) 8 E2) 14).symm) ?_
                exact L113 _ 0 (σ 14) (Nat.lt_succ_self _) (by omega) rfl
              · skip
                refine hv_aload_n C 0 0 dX12_plugs_58 rfl rfl ?_
                refine mo_geta C K 16 8 (by decide) rfl mo_hw fl_32 rfl dX12_plugs_59 ?_
                refine hv_iload C 4 4 dX12_plugs_62 rfl ?_
                refine hv_aload_n C 0 0 dX12_plugs_64 rfl rfl ?_
                refine mo_geta C K 13 5 (by decide) rfl mo_hw fl_23 rfl dX12_plugs_65 ?_
                refine hv_iload C 4 4 dX12_plugs_68 rfl ?_
                refine mo_iald C K 5 24 h2 rfl (by omega) (by omega) (by decide) dX12_plugs_70 ?_
                refine hv_as (S1 h2) rfl ?_
                refine hv_if_ge C 78 dX12_plugs_71 (by decide) (by omega) (fun h71 => ?_) (fun h71 => ?_)
                · skip
                  refine hv_aload_n C 0 0 dX12_plugs_78 rfl rfl ?_
                  refine mo_geta C K 13 5 (by decide) rfl mo_hw fl_23 rfl dX12_plugs_79 ?_
                  refine hv_iload C 4 4 dX12_plugs_82 rfl ?_
                  refine mo_iald C K 5 24 h2 rfl (by omega) (by omega) (by decide) dX12_plugs_84 ?_
                  refine hv_as (S1 h2) rfl ?_
                  refine mo_iast C K 8 24 h2 rfl (moW_set8 _ _ _ _ _ _) (by omega) (by omega) (by decide) dX12_plugs_85 ?_
                  refine mo_st (σ2 := sA (sA (sA (sA σ 5 S1) 6 K1) 7 L1) 8 (ua E3 h2 (S1 h2))) (by rw [u2_sA, sA_sA]; first | done | rfl) ?_
                  refine hv_iinc C 4 4 [(4, .int (iz (((h2 : Nat) : Int) + 1))), (0, .ref a0), (1, .int (iz d)), (2, .int (iz t)), (3, .int (iz (((48 * d) + t) - 1)))] dX12_plugs_86 rfl (by decide) rfl ?_
                  refine hv_goto C 51 dX12_plugs_89 (by decide) ?_
                  refine hv_loc [1, 2, 3, 4, 0] [(0, .ref a0), (1, .int (iz d)), (2, .int (iz t)), (3, .int (iz (((48 * d) + t) - 1))), (4, .int (iz (((h2 : Nat) : Int) + 1)))] rfl ?_
                  exact ih51 (h2 + 1) (ua E3 h2 (S1 h2)) (by omega) (by omega) (by rw [hE3]; conv => rhs; unfold ah9; first | rw [if_pos (by omega)] | rw [if_neg (by omega)])
                · skip
                  refine hv_iconst C dX12_plugs_74 ?_
                  refine hv_goto C 85 dX12_plugs_75 (by decide) ?_
                  refine mo_iast C K 8 24 h2 rfl (moW_set8 _ _ _ _ _ _) (by omega) (by omega) (by decide) dX12_plugs_85 ?_
                  refine mo_st (σ2 := sA (sA (sA (sA σ 5 S1) 6 K1) 7 L1) 8 (ua E3 h2 0)) (by rw [u2_sA, sA_sA]; first | done | rfl) ?_
                  refine hv_iinc C 4 4 [(4, .int (iz (((h2 : Nat) : Int) + 1))), (0, .ref a0), (1, .int (iz d)), (2, .int (iz t)), (3, .int (iz (((48 * d) + t) - 1)))] dX12_plugs_86 rfl (by decide) rfl ?_
                  refine hv_goto C 51 dX12_plugs_89 (by decide) ?_
                  refine hv_loc [1, 2, 3, 4, 0] [(0, .ref a0), (1, .int (iz d)), (2, .int (iz t)), (3, .int (iz (((48 * d) + t) - 1))), (4, .int (iz (((h2 : Nat) : Int) + 1)))] rfl ?_
                  exact ih51 (h2 + 1) (ua E3 h2 0) (by omega) (by omega) (by rw [hE3]; conv => rhs; unfold ah9; first | rw [if_pos (by omega)] | rw [if_neg (by omega)])
          refine hv_loc [2, 3, 4, 1, 0] [(0, .ref a0), (1, .int (iz d)), (2, .int (iz t)), (3, .int (iz (((48 * d) + t) - 1))), (4, .int (iz 0))] rfl ?_
          exact L51 _ 0 E1 (Nat.lt_succ_self _) (by omega) rfl
      · skip
        refine hv_aload_n C 0 0 dX12_plugs_8 rfl rfl ?_
        refine mo_geta C K 16 8 (by decide) rfl mo_hw fl_32 rfl dX12_plugs_9 ?_
        refine hv_iload_n C 3 3 dX12_plugs_12 rfl rfl ?_
        refine hv_iconst C dX12_plugs_13 ?_
        refine mo_iast C K 8 24 h9 rfl (moW_set8 _ _ _ _ _ _) (by omega) (by omega) (by decide) dX12_plugs_14 ?_
        refine mo_st (σ2 := sA σ 8 (ua E1 h9 0)) (by rw [u2_sA, sA_sA]; first | done | rfl) ?_
        refine hv_iinc C 3 3 [(3, .int (iz (((h9 : Nat) : Int) + 1))), (0, .ref a0), (1, .int (iz d)), (2, .int (iz t))] dX12_plugs_15 rfl (by decide) rfl ?_
        refine hv_goto C 2 dX12_plugs_18 (by decide) ?_
        refine hv_loc [1, 2, 3, 0] [(0, .ref a0), (1, .int (iz d)), (2, .int (iz t)), (3, .int (iz (((h9 : Nat) : Int) + 1)))] rfl ?_
        exact ih2 (h9 + 1) (ua E1 h9 0) (by omega) (by omega) (by rw [hh3]; rfl)
  refine hv_loc [1, 2, 3, 0] [(0, .ref a0), (1, .int (iz d)), (2, .int (iz t)), (3, .int (iz 0))] rfl ?_
  refine mo_st (σ2 := sA σ 8 (σ 8)) ((sA_id σ 8).symm) ?_
  exact L2 _ 0 (σ 8) (Nat.lt_succ_self _) (by omega) rfl
