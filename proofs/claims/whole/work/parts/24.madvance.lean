/-! the reader: bytes, blanks, words, numbers -/
def by9 (A : Nat → Int) (n q : Int) : Int := if q < n then A (1760 + q.toNat) else -1
theorem by9_in {A : Nat → Int} (h : ∀ i, inI (A i)) (n q : Int) : inI (by9 A n q) := by
  unfold by9
  split
  · exact h _
  · decide
theorem by9_lt {A : Nat → Int} {n q : Int} (h : 0 ≤ by9 A n q) : q < n := by
  unfold by9 at h
  split at h
  · assumption
  · exact absurd h (by decide)
def sk9f (A : Nat → Int) (n : Int) : Nat → Int → Int
  | 0, q => q
  | f + 1, q => if by9 A n q = 10 ∨ by9 A n q = 32 then sk9f A n f (q + 1) else q
def sk9 (A : Nat → Int) (n q : Int) : Int := sk9f A n (n - q).toNat q
theorem sk9_eq (A : Nat → Int) (n q : Int) : sk9 A n q = if by9 A n q = 10 ∨ by9 A n q = 32 then sk9 A n (q + 1) else q := by
  unfold sk9
  split
  · next h =>
    have z := by9_lt (A := A) (n := n) (q := q) (by omega)
    have e : (n - q).toNat = (n - (q + 1)).toNat + 1 := by omega
    rw [e]
    conv => lhs; unfold sk9f
    rw [if_pos h]
  · next h =>
    rcases hz : (n - q).toNat with _ | f
    · rfl
    · unfold sk9f
      rw [if_neg h]
def lt9f (A : Nat → Int) (n p : Int) : Nat → Int → Int → Int × Int
  | 0, q, v => (q, v)
  | f + 1, q, v => if 97 ≤ by9 A n q ∧ by9 A n q ≤ 122 then lt9f A n p f (q + 1) (if q - p < 7 then 32 * v + by9 A n q - 96 else v) else (q, v)
def lt9 (A : Nat → Int) (n p q v : Int) : Int × Int := lt9f A n p (n - q).toNat q v
theorem lt9_eq (A : Nat → Int) (n p q v : Int) : lt9 A n p q v = if 97 ≤ by9 A n q ∧ by9 A n q ≤ 122 then lt9 A n p (q + 1) (if q - p < 7 then 32 * v + by9 A n q - 96 else v) else (q, v) := by
  unfold lt9
  split
  · next h =>
    have z := by9_lt (A := A) (n := n) (q := q) (by omega)
    have e : (n - q).toNat = (n - (q + 1)).toNat + 1 := by omega
    rw [e]
    conv => lhs; unfold lt9f
    rw [if_pos h]
  · next h =>
    rcases hz : (n - q).toNat with _ | f
    · rfl
    · unfold lt9f
      rw [if_neg h]
def dg9f (A : Nat → Int) (n p : Int) : Nat → Int → Int → Int × Int
  | 0, q, v => (q, v)
  | f + 1, q, v => if 48 ≤ by9 A n q ∧ by9 A n q ≤ 57 then dg9f A n p f (q + 1) (if q - p < 4 then 10 * v + by9 A n q - 48 else v) else (q, v)
def dg9 (A : Nat → Int) (n p q v : Int) : Int × Int := dg9f A n p (n - q).toNat q v
theorem dg9_eq (A : Nat → Int) (n p q v : Int) : dg9 A n p q v = if 48 ≤ by9 A n q ∧ by9 A n q ≤ 57 then dg9 A n p (q + 1) (if q - p < 4 then 10 * v + by9 A n q - 48 else v) else (q, v) := by
  unfold dg9
  split
  · next h =>
    have z := by9_lt (A := A) (n := n) (q := q) (by omega)
    have e : (n - q).toNat = (n - (q + 1)).toNat + 1 := by omega
    rw [e]
    conv => lhs; unfold dg9f
    rw [if_pos h]
  · next h =>
    rcases hz : (n - q).toNat with _ | f
    · rfl
    · unfold dg9f
      rw [if_neg h]
def wo9 (q p v : Int) : Int := if 6 < q - p then 99 else wrd v
/-- the fields behind one step of the reader -/
def adv9 (A F : Nat → Int) : Nat → Int :=
  if by9 A (F 2) (sk9 A (F 2) (F 3)) < 0 then ua (ua (ua F 3 (sk9 A (F 2) (F 3))) 4 (sk9 A (F 2) (F 3))) 5 0
  else if 97 ≤ by9 A (F 2) (sk9 A (F 2) (F 3)) ∧ by9 A (F 2) (sk9 A (F 2) (F 3)) ≤ 122 then
    ua (ua (ua (ua F 3 (lt9 A (F 2) (sk9 A (F 2) (F 3)) (sk9 A (F 2) (F 3)) 0).1) 4 (sk9 A (F 2) (F 3))) 5 (if wo9 (lt9 A (F 2) (sk9 A (F 2) (F 3)) (sk9 A (F 2) (F 3)) 0).1 (sk9 A (F 2) (F 3)) (lt9 A (F 2) (sk9 A (F 2) (F 3)) (sk9 A (F 2) (F 3)) 0).2 = 99 then 4 else 3)) 8 (wo9 (lt9 A (F 2) (sk9 A (F 2) (F 3)) (sk9 A (F 2) (F 3)) 0).1 (sk9 A (F 2) (F 3)) (lt9 A (F 2) (sk9 A (F 2) (F 3)) (sk9 A (F 2) (F 3)) 0).2)
  else if 48 ≤ by9 A (F 2) (sk9 A (F 2) (F 3)) ∧ by9 A (F 2) (sk9 A (F 2) (F 3)) ≤ 57 then
    ua (ua (ua (ua F 3 (dg9 A (F 2) (sk9 A (F 2) (F 3)) (sk9 A (F 2) (F 3)) 0).1) 4 (sk9 A (F 2) (F 3))) 5 (if 4 < (dg9 A (F 2) (sk9 A (F 2) (F 3)) (sk9 A (F 2) (F 3)) 0).1 - sk9 A (F 2) (F 3) then 4 else 1)) 6 (dg9 A (F 2) (sk9 A (F 2) (F 3)) (sk9 A (F 2) (F 3)) 0).2
  else ua (ua (ua (ua F 3 (sk9 A (F 2) (F 3) + 1)) 4 (sk9 A (F 2) (F 3))) 5 (if by9 A (F 2) (sk9 A (F 2) (F 3)) = 58 ∨ by9 A (F 2) (sk9 A (F 2) (F 3)) = 59 ∨ by9 A (F 2) (sk9 A (F 2) (F 3)) = 60 ∨ by9 A (F 2) (sk9 A (F 2) (F 3)) = 62 ∨ by9 A (F 2) (sk9 A (F 2) (F 3)) = 61 then 2 else 4)) 7 (by9 A (F 2) (sk9 A (F 2) (F 3)))
theorem adv_0 {A F : Nat → Int} {p c : Int} (hp : sk9 A (F 2) (F 3) = p) (hb : by9 A (F 2) p = c) (hc : c < 0) : adv9 A F = ua (ua (ua F 3 p) 4 p) 5 0 := by
  unfold adv9; rw [hp, hb, if_pos hc]
theorem adv_1 {A F : Nat → Int} {p c q v w t : Int} (hp : sk9 A (F 2) (F 3) = p) (hb : by9 A (F 2) p = c) (hc : 97 ≤ c ∧ c ≤ 122) (hr : lt9 A (F 2) p p 0 = (q, v)) (hw : wo9 q p v = w) (ht : (if w = 99 then 4 else 3) = t) : adv9 A F = ua (ua (ua (ua F 3 q) 4 p) 5 t) 8 w := by
  unfold adv9; rw [hp, hb, if_neg (by omega), if_pos hc, hr, hw, ht]
theorem adv_2 {A F : Nat → Int} {p c q v t : Int} (hp : sk9 A (F 2) (F 3) = p) (hb : by9 A (F 2) p = c) (hc : 48 ≤ c ∧ c ≤ 57) (hr : dg9 A (F 2) p p 0 = (q, v)) (ht : (if 4 < q - p then 4 else 1) = t) : adv9 A F = ua (ua (ua (ua F 3 q) 4 p) 5 t) 6 v := by
  unfold adv9; rw [hp, hb, if_neg (by omega), if_neg (by omega), if_pos hc, hr, ht]
theorem adv_3 {A F : Nat → Int} {p c t : Int} (hp : sk9 A (F 2) (F 3) = p) (hb : by9 A (F 2) p = c) (h0 : ¬ c < 0) (h1 : ¬ (97 ≤ c ∧ c ≤ 122)) (h2 : ¬ (48 ≤ c ∧ c ≤ 57)) (ht : (if c = 58 ∨ c = 59 ∨ c = 60 ∨ c = 62 ∨ c = 61 then 2 else 4) = t) : adv9 A F = ua (ua (ua (ua F 3 (p + 1)) 4 p) 5 t) 7 c := by
  unfold adv9; rw [hp, hb, if_neg h0, if_neg h1, if_neg h2, ht]
/-- what holds while a text is read -/
def pI (σ : Nat → Nat → Int) : Prop := rg σ ∧ (0 ≤ σ 0 2 ∧ σ 0 2 ≤ 500) ∧ (0 ≤ σ 0 3 ∧ σ 0 3 ≤ σ 0 2) ∧ (0 ≤ σ 0 10 ∧ σ 0 10 ≤ 1000)
def adS (σ : Nat → Nat → Int) : Nat → Nat → Int := sA σ 0 (adv9 (σ 1) (σ 0))
theorem fi_id (σ : Nat → Nat → Int) (f : Nat) : σ = sA σ 0 (ua (σ 0) f (σ 0 f)) := by
  funext x y
  by_cases h : x = 0
  · subst h
    show σ 0 y = ua (σ 0) f (σ 0 f) y
    unfold ua
    split
    · next h => rw [h]
    · rfl
  · show σ x y = (if x = 0 then ua (σ 0) f (σ 0 f) else σ x) y
    rw [if_neg h]
theorem wr_if {P : Prop} [Decidable P] {a b : Int} (ha : 0 ≤ a ∧ a ≤ 99) (hb : 0 ≤ b ∧ b ≤ 99) : 0 ≤ (if P then a else b) ∧ (if P then a else b) ≤ 99 := by
  split
  · exact ha
  · exact hb
theorem wrd_in (v : Int) : 0 ≤ wrd v ∧ wrd v ≤ 99 := by
  unfold wrd
  repeat (refine wr_if (by decide) ?_)
  decide
def vb9 (d v : Int) : Prop := (d = 0 ∧ v = 0) ∨ (d = 1 ∧ 0 ≤ v ∧ v < 32) ∨ (d = 2 ∧ 0 ≤ v ∧ v < 1024) ∨ (d = 3 ∧ 0 ≤ v ∧ v < 32768) ∨ (d = 4 ∧ 0 ≤ v ∧ v < 1048576) ∨ (d = 5 ∧ 0 ≤ v ∧ v < 33554432) ∨ (d = 6 ∧ 0 ≤ v ∧ v < 1073741824) ∨ (7 ≤ d ∧ 0 ≤ v ∧ v < 34359738368)
def nb9 (d v : Int) : Prop := (d = 0 ∧ v = 0) ∨ (d = 1 ∧ 0 ≤ v ∧ v < 10) ∨ (d = 2 ∧ 0 ≤ v ∧ v < 100) ∨ (d = 3 ∧ 0 ≤ v ∧ v < 1000) ∨ (4 ≤ d ∧ 0 ≤ v ∧ v < 10000)
theorem vb_0 {q : Int} : vb9 (q - q) 0 := by unfold vb9; omega
theorem vb_s {p q v b : Int} (h : vb9 (q - p) v) (hb : 97 ≤ b ∧ b ≤ 122) (hd : q - p < 7) : vb9 (q + 1 - p) (32 * v + b - 96) := by unfold vb9 at *; omega
theorem vb_t {p q v : Int} (h : vb9 (q - p) v) (hd : 7 ≤ q - p) : vb9 (q + 1 - p) v := by unfold vb9 at *; omega
theorem vb_r {d v : Int} (h : vb9 d v) : 0 ≤ v ∧ v < 34359738368 := by unfold vb9 at h; omega
theorem nb_0 {q : Int} : nb9 (q - q) 0 := by unfold nb9; omega
theorem nb_s {p q v b : Int} (h : nb9 (q - p) v) (hb : 48 ≤ b ∧ b ≤ 57) (hd : q - p < 4) : nb9 (q + 1 - p) (10 * v + b - 48) := by unfold nb9 at *; omega
theorem nb_t {p q v : Int} (h : nb9 (q - p) v) (hd : 4 ≤ q - p) : nb9 (q + 1 - p) v := by unfold nb9 at *; omega
theorem nb_r {d v : Int} (h : nb9 d v) : 0 ≤ v ∧ v < 10000 := by unfold nb9 at h; omega

theorem dX12_advance_0 : decode cX12_advance 0 = .ok (.aload_n 0, 1) := by decide +kernel
theorem dX12_advance_1 : decode cX12_advance 1 = .ok (.aload_n 0, 1) := by decide +kernel
theorem dX12_advance_2 : decode cX12_advance 2 = .ok (.getfield 117, 3) := by decide +kernel
theorem dX12_advance_5 : decode cX12_advance 5 = .ok (.invokevirtual 120, 3) := by decide +kernel
theorem dX12_advance_8 : decode cX12_advance 8 = .ok (.bipush 10, 2) := by decide +kernel
theorem dX12_advance_10 : decode cX12_advance 10 = .ok (.if_icmp .eq 16, 3) := by decide +kernel
theorem dX12_advance_13 : decode cX12_advance 13 = .ok (.aload_n 0, 1) := by decide +kernel
theorem dX12_advance_14 : decode cX12_advance 14 = .ok (.aload_n 0, 1) := by decide +kernel
theorem dX12_advance_15 : decode cX12_advance 15 = .ok (.getfield 117, 3) := by decide +kernel
theorem dX12_advance_18 : decode cX12_advance 18 = .ok (.invokevirtual 120, 3) := by decide +kernel
theorem dX12_advance_21 : decode cX12_advance 21 = .ok (.bipush 32, 2) := by decide +kernel
theorem dX12_advance_23 : decode cX12_advance 23 = .ok (.if_icmp .ne 16, 3) := by decide +kernel
theorem dX12_advance_26 : decode cX12_advance 26 = .ok (.aload_n 0, 1) := by decide +kernel
theorem dX12_advance_27 : decode cX12_advance 27 = .ok (.dup, 1) := by decide +kernel
theorem dX12_advance_28 : decode cX12_advance 28 = .ok (.getfield 117, 3) := by decide +kernel
theorem dX12_advance_31 : decode cX12_advance 31 = .ok (.iconst 1, 1) := by decide +kernel
theorem dX12_advance_32 : decode cX12_advance 32 = .ok (.iadd, 1) := by decide +kernel
theorem dX12_advance_33 : decode cX12_advance 33 = .ok (.putfield 117, 3) := by decide +kernel
theorem dX12_advance_36 : decode cX12_advance 36 = .ok (.goto (-36), 3) := by decide +kernel
theorem dX12_advance_39 : decode cX12_advance 39 = .ok (.aload_n 0, 1) := by decide +kernel
theorem dX12_advance_40 : decode cX12_advance 40 = .ok (.aload_n 0, 1) := by decide +kernel
theorem dX12_advance_41 : decode cX12_advance 41 = .ok (.getfield 117, 3) := by decide +kernel
theorem dX12_advance_44 : decode cX12_advance 44 = .ok (.putfield 124, 3) := by decide +kernel
theorem dX12_advance_47 : decode cX12_advance 47 = .ok (.aload_n 0, 1) := by decide +kernel
theorem dX12_advance_48 : decode cX12_advance 48 = .ok (.aload_n 0, 1) := by decide +kernel
theorem dX12_advance_49 : decode cX12_advance 49 = .ok (.getfield 117, 3) := by decide +kernel
theorem dX12_advance_52 : decode cX12_advance 52 = .ok (.invokevirtual 120, 3) := by decide +kernel
theorem dX12_advance_55 : decode cX12_advance 55 = .ok (.istore_n 1, 1) := by decide +kernel
theorem dX12_advance_56 : decode cX12_advance 56 = .ok (.iload_n 1, 1) := by decide +kernel
theorem dX12_advance_57 : decode cX12_advance 57 = .ok (.ifCond .ge 11, 3) := by decide +kernel
theorem dX12_advance_60 : decode cX12_advance 60 = .ok (.aload_n 0, 1) := by decide +kernel
theorem dX12_advance_61 : decode cX12_advance 61 = .ok (.iconst 0, 1) := by decide +kernel
theorem dX12_advance_62 : decode cX12_advance 62 = .ok (.putfield 127, 3) := by decide +kernel
theorem dX12_advance_65 : decode cX12_advance 65 = .ok (.goto 252, 3) := by decide +kernel
theorem dX12_advance_68 : decode cX12_advance 68 = .ok (.iload_n 1, 1) := by decide +kernel
theorem dX12_advance_69 : decode cX12_advance 69 = .ok (.invokestatic 130, 3) := by decide +kernel
theorem dX12_advance_72 : decode cX12_advance 72 = .ok (.ifCond .eq 114, 3) := by decide +kernel
theorem dX12_advance_75 : decode cX12_advance 75 = .ok (.lconst 0, 1) := by decide +kernel
theorem dX12_advance_76 : decode cX12_advance 76 = .ok (.lstore_n 2, 1) := by decide +kernel
theorem dX12_advance_77 : decode cX12_advance 77 = .ok (.aload_n 0, 1) := by decide +kernel
theorem dX12_advance_78 : decode cX12_advance 78 = .ok (.aload_n 0, 1) := by decide +kernel
theorem dX12_advance_79 : decode cX12_advance 79 = .ok (.getfield 117, 3) := by decide +kernel
theorem dX12_advance_82 : decode cX12_advance 82 = .ok (.invokevirtual 120, 3) := by decide +kernel
theorem dX12_advance_85 : decode cX12_advance 85 = .ok (.invokestatic 130, 3) := by decide +kernel
theorem dX12_advance_88 : decode cX12_advance 88 = .ok (.ifCond .eq 50, 3) := by decide +kernel
theorem dX12_advance_91 : decode cX12_advance 91 = .ok (.aload_n 0, 1) := by decide +kernel
theorem dX12_advance_92 : decode cX12_advance 92 = .ok (.getfield 117, 3) := by decide +kernel
theorem dX12_advance_95 : decode cX12_advance 95 = .ok (.aload_n 0, 1) := by decide +kernel
theorem dX12_advance_96 : decode cX12_advance 96 = .ok (.getfield 124, 3) := by decide +kernel
theorem dX12_advance_99 : decode cX12_advance 99 = .ok (.isub, 1) := by decide +kernel
theorem dX12_advance_100 : decode cX12_advance 100 = .ok (.bipush 7, 2) := by decide +kernel
theorem dX12_advance_102 : decode cX12_advance 102 = .ok (.if_icmp .ge 23, 3) := by decide +kernel
theorem dX12_advance_105 : decode cX12_advance 105 = .ok (.ldc2_w 95, 3) := by decide +kernel
theorem dX12_advance_108 : decode cX12_advance 108 = .ok (.lload_n 2, 1) := by decide +kernel
theorem dX12_advance_109 : decode cX12_advance 109 = .ok (.lmul, 1) := by decide +kernel
theorem dX12_advance_110 : decode cX12_advance 110 = .ok (.aload_n 0, 1) := by decide +kernel
theorem dX12_advance_111 : decode cX12_advance 111 = .ok (.aload_n 0, 1) := by decide +kernel
theorem dX12_advance_112 : decode cX12_advance 112 = .ok (.getfield 117, 3) := by decide +kernel
theorem dX12_advance_115 : decode cX12_advance 115 = .ok (.invokevirtual 120, 3) := by decide +kernel
theorem dX12_advance_118 : decode cX12_advance 118 = .ok (.i2l, 1) := by decide +kernel
theorem dX12_advance_119 : decode cX12_advance 119 = .ok (.ladd, 1) := by decide +kernel
theorem dX12_advance_120 : decode cX12_advance 120 = .ok (.ldc2_w 97, 3) := by decide +kernel
theorem dX12_advance_123 : decode cX12_advance 123 = .ok (.lsub, 1) := by decide +kernel
theorem dX12_advance_124 : decode cX12_advance 124 = .ok (.lstore_n 2, 1) := by decide +kernel
theorem dX12_advance_125 : decode cX12_advance 125 = .ok (.aload_n 0, 1) := by decide +kernel
theorem dX12_advance_126 : decode cX12_advance 126 = .ok (.dup, 1) := by decide +kernel
theorem dX12_advance_127 : decode cX12_advance 127 = .ok (.getfield 117, 3) := by decide +kernel
theorem dX12_advance_130 : decode cX12_advance 130 = .ok (.iconst 1, 1) := by decide +kernel
theorem dX12_advance_131 : decode cX12_advance 131 = .ok (.iadd, 1) := by decide +kernel
theorem dX12_advance_132 : decode cX12_advance 132 = .ok (.putfield 117, 3) := by decide +kernel
theorem dX12_advance_135 : decode cX12_advance 135 = .ok (.goto (-58), 3) := by decide +kernel
theorem dX12_advance_138 : decode cX12_advance 138 = .ok (.aload_n 0, 1) := by decide +kernel
theorem dX12_advance_139 : decode cX12_advance 139 = .ok (.aload_n 0, 1) := by decide +kernel
theorem dX12_advance_140 : decode cX12_advance 140 = .ok (.getfield 117, 3) := by decide +kernel
theorem dX12_advance_143 : decode cX12_advance 143 = .ok (.aload_n 0, 1) := by decide +kernel
theorem dX12_advance_144 : decode cX12_advance 144 = .ok (.getfield 124, 3) := by decide +kernel
theorem dX12_advance_147 : decode cX12_advance 147 = .ok (.isub, 1) := by decide +kernel
theorem dX12_advance_148 : decode cX12_advance 148 = .ok (.bipush 6, 2) := by decide +kernel
theorem dX12_advance_150 : decode cX12_advance 150 = .ok (.if_icmp .le 8, 3) := by decide +kernel
theorem dX12_advance_153 : decode cX12_advance 153 = .ok (.bipush 99, 2) := by decide +kernel
theorem dX12_advance_155 : decode cX12_advance 155 = .ok (.goto 7, 3) := by decide +kernel
theorem dX12_advance_158 : decode cX12_advance 158 = .ok (.lload_n 2, 1) := by decide +kernel
theorem dX12_advance_159 : decode cX12_advance 159 = .ok (.invokestatic 133, 3) := by decide +kernel
theorem dX12_advance_162 : decode cX12_advance 162 = .ok (.putfield 137, 3) := by decide +kernel
theorem dX12_advance_165 : decode cX12_advance 165 = .ok (.aload_n 0, 1) := by decide +kernel
theorem dX12_advance_166 : decode cX12_advance 166 = .ok (.aload_n 0, 1) := by decide +kernel
theorem dX12_advance_167 : decode cX12_advance 167 = .ok (.getfield 137, 3) := by decide +kernel
theorem dX12_advance_170 : decode cX12_advance 170 = .ok (.bipush 99, 2) := by decide +kernel
theorem dX12_advance_172 : decode cX12_advance 172 = .ok (.if_icmp .ne 7, 3) := by decide +kernel
theorem dX12_advance_175 : decode cX12_advance 175 = .ok (.iconst 4, 1) := by decide +kernel
theorem dX12_advance_176 : decode cX12_advance 176 = .ok (.goto 4, 3) := by decide +kernel
theorem dX12_advance_179 : decode cX12_advance 179 = .ok (.iconst 3, 1) := by decide +kernel
theorem dX12_advance_180 : decode cX12_advance 180 = .ok (.putfield 127, 3) := by decide +kernel
theorem dX12_advance_183 : decode cX12_advance 183 = .ok (.goto 134, 3) := by decide +kernel
theorem dX12_advance_186 : decode cX12_advance 186 = .ok (.iload_n 1, 1) := by decide +kernel
theorem dX12_advance_187 : decode cX12_advance 187 = .ok (.invokestatic 140, 3) := by decide +kernel
theorem dX12_advance_190 : decode cX12_advance 190 = .ok (.ifCond .eq 96, 3) := by decide +kernel
theorem dX12_advance_193 : decode cX12_advance 193 = .ok (.aload_n 0, 1) := by decide +kernel
theorem dX12_advance_194 : decode cX12_advance 194 = .ok (.iconst 0, 1) := by decide +kernel
theorem dX12_advance_195 : decode cX12_advance 195 = .ok (.putfield 143, 3) := by decide +kernel
theorem dX12_advance_198 : decode cX12_advance 198 = .ok (.aload_n 0, 1) := by decide +kernel
theorem dX12_advance_199 : decode cX12_advance 199 = .ok (.aload_n 0, 1) := by decide +kernel
theorem dX12_advance_200 : decode cX12_advance 200 = .ok (.getfield 117, 3) := by decide +kernel
theorem dX12_advance_203 : decode cX12_advance 203 = .ok (.invokevirtual 120, 3) := by decide +kernel
theorem dX12_advance_206 : decode cX12_advance 206 = .ok (.invokestatic 140, 3) := by decide +kernel
theorem dX12_advance_209 : decode cX12_advance 209 = .ok (.ifCond .eq 52, 3) := by decide +kernel
theorem dX12_advance_212 : decode cX12_advance 212 = .ok (.aload_n 0, 1) := by decide +kernel
theorem dX12_advance_213 : decode cX12_advance 213 = .ok (.getfield 117, 3) := by decide +kernel
theorem dX12_advance_216 : decode cX12_advance 216 = .ok (.aload_n 0, 1) := by decide +kernel
theorem dX12_advance_217 : decode cX12_advance 217 = .ok (.getfield 124, 3) := by decide +kernel
theorem dX12_advance_220 : decode cX12_advance 220 = .ok (.isub, 1) := by decide +kernel
theorem dX12_advance_221 : decode cX12_advance 221 = .ok (.iconst 4, 1) := by decide +kernel
theorem dX12_advance_222 : decode cX12_advance 222 = .ok (.if_icmp .ge 26, 3) := by decide +kernel
theorem dX12_advance_225 : decode cX12_advance 225 = .ok (.aload_n 0, 1) := by decide +kernel
theorem dX12_advance_226 : decode cX12_advance 226 = .ok (.bipush 10, 2) := by decide +kernel
theorem dX12_advance_228 : decode cX12_advance 228 = .ok (.aload_n 0, 1) := by decide +kernel
theorem dX12_advance_229 : decode cX12_advance 229 = .ok (.getfield 143, 3) := by decide +kernel
theorem dX12_advance_232 : decode cX12_advance 232 = .ok (.imul, 1) := by decide +kernel
theorem dX12_advance_233 : decode cX12_advance 233 = .ok (.aload_n 0, 1) := by decide +kernel
theorem dX12_advance_234 : decode cX12_advance 234 = .ok (.aload_n 0, 1) := by decide +kernel
theorem dX12_advance_235 : decode cX12_advance 235 = .ok (.getfield 117, 3) := by decide +kernel
theorem dX12_advance_238 : decode cX12_advance 238 = .ok (.invokevirtual 120, 3) := by decide +kernel
theorem dX12_advance_241 : decode cX12_advance 241 = .ok (.iadd, 1) := by decide +kernel
theorem dX12_advance_242 : decode cX12_advance 242 = .ok (.bipush 48, 2) := by decide +kernel
theorem dX12_advance_244 : decode cX12_advance 244 = .ok (.isub, 1) := by decide +kernel
theorem dX12_advance_245 : decode cX12_advance 245 = .ok (.putfield 143, 3) := by decide +kernel
theorem dX12_advance_248 : decode cX12_advance 248 = .ok (.aload_n 0, 1) := by decide +kernel
theorem dX12_advance_249 : decode cX12_advance 249 = .ok (.dup, 1) := by decide +kernel
theorem dX12_advance_250 : decode cX12_advance 250 = .ok (.getfield 117, 3) := by decide +kernel
theorem dX12_advance_253 : decode cX12_advance 253 = .ok (.iconst 1, 1) := by decide +kernel
theorem dX12_advance_254 : decode cX12_advance 254 = .ok (.iadd, 1) := by decide +kernel
theorem dX12_advance_255 : decode cX12_advance 255 = .ok (.putfield 117, 3) := by decide +kernel
theorem dX12_advance_258 : decode cX12_advance 258 = .ok (.goto (-60), 3) := by decide +kernel
theorem dX12_advance_261 : decode cX12_advance 261 = .ok (.aload_n 0, 1) := by decide +kernel
theorem dX12_advance_262 : decode cX12_advance 262 = .ok (.aload_n 0, 1) := by decide +kernel
theorem dX12_advance_263 : decode cX12_advance 263 = .ok (.getfield 117, 3) := by decide +kernel
theorem dX12_advance_266 : decode cX12_advance 266 = .ok (.aload_n 0, 1) := by decide +kernel
theorem dX12_advance_267 : decode cX12_advance 267 = .ok (.getfield 124, 3) := by decide +kernel
theorem dX12_advance_270 : decode cX12_advance 270 = .ok (.isub, 1) := by decide +kernel
theorem dX12_advance_271 : decode cX12_advance 271 = .ok (.iconst 4, 1) := by decide +kernel
theorem dX12_advance_272 : decode cX12_advance 272 = .ok (.if_icmp .le 7, 3) := by decide +kernel
theorem dX12_advance_275 : decode cX12_advance 275 = .ok (.iconst 4, 1) := by decide +kernel
theorem dX12_advance_276 : decode cX12_advance 276 = .ok (.goto 4, 3) := by decide +kernel
theorem dX12_advance_279 : decode cX12_advance 279 = .ok (.iconst 1, 1) := by decide +kernel
theorem dX12_advance_280 : decode cX12_advance 280 = .ok (.putfield 127, 3) := by decide +kernel
theorem dX12_advance_283 : decode cX12_advance 283 = .ok (.goto 34, 3) := by decide +kernel
theorem dX12_advance_286 : decode cX12_advance 286 = .ok (.aload_n 0, 1) := by decide +kernel
theorem dX12_advance_287 : decode cX12_advance 287 = .ok (.dup, 1) := by decide +kernel
theorem dX12_advance_288 : decode cX12_advance 288 = .ok (.getfield 117, 3) := by decide +kernel
theorem dX12_advance_291 : decode cX12_advance 291 = .ok (.iconst 1, 1) := by decide +kernel
theorem dX12_advance_292 : decode cX12_advance 292 = .ok (.iadd, 1) := by decide +kernel
theorem dX12_advance_293 : decode cX12_advance 293 = .ok (.putfield 117, 3) := by decide +kernel
theorem dX12_advance_296 : decode cX12_advance 296 = .ok (.aload_n 0, 1) := by decide +kernel
theorem dX12_advance_297 : decode cX12_advance 297 = .ok (.iload_n 1, 1) := by decide +kernel
theorem dX12_advance_298 : decode cX12_advance 298 = .ok (.putfield 146, 3) := by decide +kernel
theorem dX12_advance_301 : decode cX12_advance 301 = .ok (.aload_n 0, 1) := by decide +kernel
theorem dX12_advance_302 : decode cX12_advance 302 = .ok (.iload_n 1, 1) := by decide +kernel
theorem dX12_advance_303 : decode cX12_advance 303 = .ok (.invokestatic 149, 3) := by decide +kernel
theorem dX12_advance_306 : decode cX12_advance 306 = .ok (.ifCond .eq 7, 3) := by decide +kernel
theorem dX12_advance_309 : decode cX12_advance 309 = .ok (.iconst 2, 1) := by decide +kernel
theorem dX12_advance_310 : decode cX12_advance 310 = .ok (.goto 4, 3) := by decide +kernel
theorem dX12_advance_313 : decode cX12_advance 313 = .ok (.iconst 4, 1) := by decide +kernel
theorem dX12_advance_314 : decode cX12_advance 314 = .ok (.putfield 127, 3) := by decide +kernel
theorem dX12_advance_317 : decode cX12_advance 317 = .ok (.return_, 1) := by decide +kernel
set_option maxRecDepth 100000 in
set_option maxHeartbeats 4000000 in
theorem k_advance (l : Launch) {D : va_G} {cI cZ : ClassId} {a0 : Nat} (σ : Nat → Nat → Int)  (hp : pI σ) : moM l D cI cZ a0 yX12_advance cX12_advance 4 none 3 66 [.ref a0] σ none (adS σ) := by
  refine mo_start (by decide) rfl (Nat.le_of_ble_eq_true rfl) ?_
  intro p e s m args below meth c C K hr hlk
  obtain ⟨hσ, hz, hn, hl⟩ := hp
  have L0 : ∀ (f : Nat) (q : Int), (σ 0 2 - q).toNat < f → (0 ≤ q ∧ q ≤ σ 0 2) → (sk9 (σ 1) (σ 0 2) q = sk9 (σ 1) (σ 0 2) (σ 0 3)) → hvV p l e { frames := 3, cells := 0, slots := 0, locals := 66 } s m args below meth c 4 (moR a0) 0 0 (MQ below (moQ D cI cZ a0 none (adS σ)) args s 0 0 (moR a0)) (moI D cI cZ a0 s.heap (sA σ 0 (ua (σ 0) 3 q))) 0 [(0, .ref a0)] [] := by
    intro f
    induction f with
    | zero => intro _ hm; exact absurd hm (Nat.not_lt_zero _)
    | succ f ih0 =>
      intro q hm0 hq hq0
      refine hv_aload_n C 0 0 dX12_advance_0 rfl rfl ?_
      refine hv_aload_n C 0 0 dX12_advance_1 rfl rfl ?_
      refine mo_geti C K (x := q) 3 (by decide) rfl mo_hw fl_117 rfl dX12_advance_2 ?_
      refine mo_call [.int (iz q)] [] C K (k_byteAt l (sA σ 0 (ua (σ 0) 3 q)) q (by repeat (first | assumption | refine rg_sA ?_ ?_ | refine in_ua ?_ (by omega) | exact fun _ => hσ _ _)) (by omega) (show σ 0 2 ≤ 500 from hz.2) (by omega)) ck_byteAt (by decide) rfl (Nat.le_of_ble_eq_true rfl) dX12_advance_5 ?_
      refine hv_as ((if q < (σ 0 2) then (σ 1) (1760 + q.toNat) else -1)) rfl ?_
      refine hv_nm (fun x1 ex1 => ?_)
      have rx1 : inI x1 := by rw [ex1]; exact by9_in (fun _ => hσ _ _) _ _
      have zb8 : by9 (σ 1) (σ 0 2) q = x1 := ex1.symm
      refine hv_bipush C dX12_advance_8 (by decide) ?_
      refine hv_icmp_eq C 26 dX12_advance_10 (by decide) (by omega) (by omega) (fun h10 => ?_) (fun h10 => ?_)
      · skip
        have zl := by9_lt (A := σ 1) (n := σ 0 2) (q := q) (by omega)
        refine hv_aload_n C 0 0 dX12_advance_26 rfl rfl ?_
        refine hv_dup C dX12_advance_27 rfl ?_
        refine mo_geti C K (x := q) 3 (by decide) rfl mo_hw fl_117 rfl dX12_advance_28 ?_
        refine hv_iconst C dX12_advance_31 ?_
        refine hv_iadd C dX12_advance_32 ?_
        refine mo_puti C K (σ2 := u2 (sA σ 0 (ua (σ 0) 3 q)) 0 3 (q + 1)) 3 (by decide) rfl mo_hw fl_117 rfl rfl (ty := .int) (by decide +kernel) rfl rfl dX12_advance_33 ?_
        refine mo_st (σ2 := sA σ 0 (ua (σ 0) 3 (q + 1))) (by rw [u2_sA, sA_sA]; rw [show (sA σ 0 (ua (σ 0) 3 q)) 0 = (ua (σ 0) 3 q) from rfl, ua_ua]; first | done | rfl) ?_
        refine hv_goto C 0 dX12_advance_36 (by decide) ?_
        exact ih0 (q + 1) (by omega) (by omega) (by rw [← hq0]; conv => rhs; rw [sk9_eq, if_pos (by omega)])
      · skip
        refine hv_aload_n C 0 0 dX12_advance_13 rfl rfl ?_
        refine hv_aload_n C 0 0 dX12_advance_14 rfl rfl ?_
        refine mo_geti C K (x := q) 3 (by decide) rfl mo_hw fl_117 rfl dX12_advance_15 ?_
        refine mo_call [.int (iz q)] [] C K (k_byteAt l (sA σ 0 (ua (σ 0) 3 q)) q (by repeat (first | assumption | refine rg_sA ?_ ?_ | refine in_ua ?_ (by omega) | exact fun _ => hσ _ _)) (by omega) (show σ 0 2 ≤ 500 from hz.2) (by omega)) ck_byteAt (by decide) rfl (Nat.le_of_ble_eq_true rfl) dX12_advance_18 ?_
        refine hv_as ((if q < (σ 0 2) then (σ 1) (1760 + q.toNat) else -1)) rfl ?_
        refine hv_nm (fun x2 ex2 => ?_)
        have rx2 : inI x2 := by rw [ex2]; exact by9_in (fun _ => hσ _ _) _ _
        have zb21 : by9 (σ 1) (σ 0 2) q = x2 := ex2.symm
        refine hv_bipush C dX12_advance_21 (by decide) ?_
        refine hv_icmp_ne C 39 dX12_advance_23 (by decide) (by omega) (by omega) (fun h23 => ?_) (fun h23 => ?_)
        · skip
          have zp : sk9 (σ 1) (σ 0 2) (σ 0 3) = q := by rw [← hq0, sk9_eq, if_neg (by omega)]
          refine hv_aload_n C 0 0 dX12_advance_39 rfl rfl ?_
          refine hv_aload_n C 0 0 dX12_advance_40 rfl rfl ?_
          refine mo_geti C K (x := q) 3 (by decide) rfl mo_hw fl_117 rfl dX12_advance_41 ?_
          refine mo_puti C K (σ2 := u2 (sA σ 0 (ua (σ 0) 3 q)) 0 4 q) 4 (by decide) rfl mo_hw fl_124 rfl rfl (ty := .int) (by decide +kernel) rfl rfl dX12_advance_44 ?_
          refine mo_st (σ2 := sA σ 0 (ua (ua (σ 0) 3 q) 4 q)) (by rw [u2_sA, sA_sA]; first | done | rfl) ?_
          refine hv_aload_n C 0 0 dX12_advance_47 rfl rfl ?_
          refine hv_aload_n C 0 0 dX12_advance_48 rfl rfl ?_
          refine mo_geti C K (x := q) 3 (by decide) rfl mo_hw fl_117 rfl dX12_advance_49 ?_
          refine mo_call [.int (iz q)] [] C K (k_byteAt l (sA σ 0 (ua (ua (σ 0) 3 q) 4 q)) q (by repeat (first | assumption | refine rg_sA ?_ ?_ | refine in_ua ?_ (by omega) | exact fun _ => hσ _ _)) (by omega) (show σ 0 2 ≤ 500 from hz.2) (by omega)) ck_byteAt (by decide) rfl (Nat.le_of_ble_eq_true rfl) dX12_advance_52 ?_
          refine hv_as ((if q < (σ 0 2) then (σ 1) (1760 + q.toNat) else -1)) rfl ?_
          refine hv_nm (fun x3 ex3 => ?_)
          have rx3 : inI x3 := by rw [ex3]; exact by9_in (fun _ => hσ _ _) _ _
          have zc : by9 (σ 1) (σ 0 2) q = x3 := ex3.symm
          refine hv_istore_n C 1 [(1, .int (iz x3)), (0, .ref a0)] dX12_advance_55 rfl (by decide) rfl ?_
          refine hv_iload_n C 1 0 dX12_advance_56 rfl rfl ?_
          refine hv_if_ge C 68 dX12_advance_57 (by decide) (by omega) (fun h57 => ?_) (fun h57 => ?_)
          · skip
            have zl := by9_lt (A := σ 1) (n := σ 0 2) (q := q) (by omega)
            refine hv_iload_n C 1 0 dX12_advance_68 rfl rfl ?_
            refine mo_callS [.int (iz x3)] [] C K (k_isLetter l (sA σ 0 (ua (ua (σ 0) 3 q) 4 q)) x3 (by omega)) ck_isLetter (by decide) rfl (Nat.le_of_ble_eq_true rfl) dX12_advance_69 ?_
            refine hv_dif_eq C 186 dX12_advance_72 (by decide)  (fun h72 => ?_) (fun h72 => ?_)
            · skip
              refine hv_iload_n C 1 0 dX12_advance_186 rfl rfl ?_
              refine mo_callS [.int (iz x3)] [] C K (k_isDigit l (sA σ 0 (ua (ua (σ 0) 3 q) 4 q)) x3 (by omega)) ck_isDigit (by decide) rfl (Nat.le_of_ble_eq_true rfl) dX12_advance_187 ?_
              refine hv_dif_eq C 286 dX12_advance_190 (by decide)  (fun h190 => ?_) (fun h190 => ?_)
              · skip
                refine hv_aload_n C 0 1 dX12_advance_286 rfl rfl ?_
                refine hv_dup C dX12_advance_287 rfl ?_
                refine mo_geti C K (x := q) 3 (by decide) rfl mo_hw fl_117 rfl dX12_advance_288 ?_
                refine hv_iconst C dX12_advance_291 ?_
                refine hv_iadd C dX12_advance_292 ?_
                refine mo_puti C K (σ2 := u2 (sA σ 0 (ua (ua (σ 0) 3 q) 4 q)) 0 3 (q + 1)) 3 (by decide) rfl mo_hw fl_117 rfl rfl (ty := .int) (by decide +kernel) rfl rfl dX12_advance_293 ?_
                refine mo_st (σ2 := sA σ 0 (ua (ua (σ 0) 3 (q + 1)) 4 q)) (by rw [u2_sA, sA_sA]; rw [show (sA σ 0 (ua (ua (σ 0) 3 q) 4 q)) 0 = (ua (ua (σ 0) 3 q) 4 q) from rfl, ua_comm (i := 4) (k := 3) (by decide), ua_ua]; first | done | rfl) ?_
                refine hv_aload_n C 0 1 dX12_advance_296 rfl rfl ?_
                refine hv_iload_n C 1 0 dX12_advance_297 rfl rfl ?_
                refine mo_puti C K (σ2 := u2 (sA σ 0 (ua (ua (σ 0) 3 (q + 1)) 4 q)) 0 7 x3) 7 (by decide) rfl mo_hw fl_146 rfl rfl (ty := .int) (by decide +kernel) rfl rfl dX12_advance_298 ?_
                refine mo_st (σ2 := sA σ 0 (ua (ua (ua (σ 0) 3 (q + 1)) 4 q) 7 x3)) (by rw [u2_sA, sA_sA]; first | done | rfl) ?_
                refine hv_aload_n C 0 1 dX12_advance_301 rfl rfl ?_
                refine hv_iload_n C 1 0 dX12_advance_302 rfl rfl ?_
                refine mo_callS [.int (iz x3)] [.ref a0] C K (k_isSignByte l (sA σ 0 (ua (ua (ua (σ 0) 3 (q + 1)) 4 q) 7 x3)) x3 (by omega)) ck_isSignByte (by decide) rfl (Nat.le_of_ble_eq_true rfl) dX12_advance_303 ?_
                refine hv_dif_eq C 313 dX12_advance_306 (by decide)  (fun h306 => ?_) (fun h306 => ?_)
                · skip
                  refine hv_iconst C dX12_advance_313 ?_
                  refine mo_puti C K (σ2 := u2 (sA σ 0 (ua (ua (ua (σ 0) 3 (q + 1)) 4 q) 7 x3)) 0 5 4) 5 (by decide) rfl mo_hw fl_127 rfl rfl (ty := .int) (by decide +kernel) rfl rfl dX12_advance_314 ?_
                  refine mo_st (σ2 := sA σ 0 (ua (ua (ua (ua (σ 0) 3 (q + 1)) 4 q) 5 4) 7 x3)) (by rw [u2_sA, sA_sA]; rw [show (sA σ 0 (ua (ua (ua (σ 0) 3 (q + 1)) 4 q) 7 x3)) 0 = (ua (ua (ua (σ 0) 3 (q + 1)) 4 q) 7 x3) from rfl, ua_comm (i := 7) (k := 5) (by decide)]; first | done | rfl) ?_
                  exact mo_vret (Qc := fun _ _ _ _ => True) C hr hlk (by first | exact congrArg (sA σ 0) (adv_0 zp zc h57).symm | exact congrArg (sA σ 0) (adv_1 zp zc h72 zr9 zw9 (by first | exact if_pos h172 | exact if_neg h172 | omega)).symm | exact congrArg (sA σ 0) (adv_2 zp zc h190 zr9 (by first | exact if_pos (by omega) | exact if_neg (by omega))).symm | exact congrArg (sA σ 0) (adv_3 zp zc (by omega) h72 h190 (by first | exact if_pos h306 | exact if_neg h306)).symm) dX12_advance_317
                · skip
                  refine hv_iconst C dX12_advance_309 ?_
                  refine hv_goto C 314 dX12_advance_310 (by decide) ?_
                  refine mo_puti C K (σ2 := u2 (sA σ 0 (ua (ua (ua (σ 0) 3 (q + 1)) 4 q) 7 x3)) 0 5 2) 5 (by decide) rfl mo_hw fl_127 rfl rfl (ty := .int) (by decide +kernel) rfl rfl dX12_advance_314 ?_
                  refine mo_st (σ2 := sA σ 0 (ua (ua (ua (ua (σ 0) 3 (q + 1)) 4 q) 5 2) 7 x3)) (by rw [u2_sA, sA_sA]; rw [show (sA σ 0 (ua (ua (ua (σ 0) 3 (q + 1)) 4 q) 7 x3)) 0 = (ua (ua (ua (σ 0) 3 (q + 1)) 4 q) 7 x3) from rfl, ua_comm (i := 7) (k := 5) (by decide)]; first | done | rfl) ?_
                  exact mo_vret (Qc := fun _ _ _ _ => True) C hr hlk (by first | exact congrArg (sA σ 0) (adv_0 zp zc h57).symm | exact congrArg (sA σ 0) (adv_1 zp zc h72 zr9 zw9 (by first | exact if_pos h172 | exact if_neg h172 | omega)).symm | exact congrArg (sA σ 0) (adv_2 zp zc h190 zr9 (by first | exact if_pos (by omega) | exact if_neg (by omega))).symm | exact congrArg (sA σ 0) (adv_3 zp zc (by omega) h72 h190 (by first | exact if_pos h306 | exact if_neg h306)).symm) dX12_advance_317
              · skip
                refine hv_aload_n C 0 1 dX12_advance_193 rfl rfl ?_
                refine hv_iconst C dX12_advance_194 ?_
                refine mo_puti C K (σ2 := u2 (sA σ 0 (ua (ua (σ 0) 3 q) 4 q)) 0 6 0) 6 (by decide) rfl mo_hw fl_143 rfl rfl (ty := .int) (by decide +kernel) rfl rfl dX12_advance_195 ?_
                refine mo_st (σ2 := sA σ 0 (ua (ua (ua (σ 0) 3 q) 4 q) 6 0)) (by rw [u2_sA, sA_sA]; first | done | rfl) ?_
                have L198 : ∀ (f : Nat) (q3 : Int) (nu : Int), (σ 0 2 - q3).toNat < f → (q ≤ q3 ∧ q3 ≤ σ 0 2) → (nb9 (q3 - q) nu) → (dg9 (σ 1) (σ 0 2) q q3 nu = dg9 (σ 1) (σ 0 2) q q 0) → hvV p l e { frames := 3, cells := 0, slots := 0, locals := 66 } s m args below meth c 4 (moR a0) 0 0 (MQ below (moQ D cI cZ a0 none (adS σ)) args s 0 0 (moR a0)) (moI D cI cZ a0 s.heap (sA σ 0 (ua (ua (ua (σ 0) 3 q3) 4 q) 6 nu))) 198 [(0, .ref a0), (1, .int (iz x3))] [] := by
                  intro f
                  induction f with
                  | zero => intro _ _ hm; exact absurd hm (Nat.not_lt_zero _)
                  | succ f ih198 =>
                    intro q3 nu hm198 hq3 hv3 hr3
                    have zv3 := nb_r hv3
                    refine hv_aload_n C 0 0 dX12_advance_198 rfl rfl ?_
                    refine hv_aload_n C 0 0 dX12_advance_199 rfl rfl ?_
                    refine mo_geti C K (x := q3) 3 (by decide) rfl mo_hw fl_117 rfl dX12_advance_200 ?_
                    refine mo_call [.int (iz q3)] [] C K (k_byteAt l (sA σ 0 (ua (ua (ua (σ 0) 3 q3) 4 q) 6 nu)) q3 (by repeat (first | assumption | refine rg_sA ?_ ?_ | refine in_ua ?_ (by omega) | exact fun _ => hσ _ _)) (by omega) (show σ 0 2 ≤ 500 from hz.2) (by omega)) ck_byteAt (by decide) rfl (Nat.le_of_ble_eq_true rfl) dX12_advance_203 ?_
                    refine hv_as ((if q3 < (σ 0 2) then (σ 1) (1760 + q3.toNat) else -1)) rfl ?_
                    refine hv_nm (fun x4 ex4 => ?_)
                    have rx4 : inI x4 := by rw [ex4]; exact by9_in (fun _ => hσ _ _) _ _
                    have zb206 : by9 (σ 1) (σ 0 2) q3 = x4 := ex4.symm
                    refine mo_callS [.int (iz x4)] [] C K (k_isDigit l (sA σ 0 (ua (ua (ua (σ 0) 3 q3) 4 q) 6 nu)) x4 (by omega)) ck_isDigit (by decide) rfl (Nat.le_of_ble_eq_true rfl) dX12_advance_206 ?_
                    refine hv_dif_eq C 261 dX12_advance_209 (by decide)  (fun h209 => ?_) (fun h209 => ?_)
                    · skip
                      have zr9 : dg9 (σ 1) (σ 0 2) q q 0 = (q3, nu) := by rw [← hr3, dg9_eq, if_neg (by omega)]
                      refine hv_aload_n C 0 0 dX12_advance_261 rfl rfl ?_
                      refine hv_aload_n C 0 0 dX12_advance_262 rfl rfl ?_
                      refine mo_geti C K (x := q3) 3 (by decide) rfl mo_hw fl_117 rfl dX12_advance_263 ?_
                      refine hv_aload_n C 0 0 dX12_advance_266 rfl rfl ?_
                      refine mo_geti C K (x := q) 4 (by decide) rfl mo_hw fl_124 rfl dX12_advance_267 ?_
                      refine hv_isub C dX12_advance_270 ?_
                      refine hv_iconst C dX12_advance_271 ?_
                      refine hv_icmp_le C 279 dX12_advance_272 (by decide) (by omega) (by omega) (fun h272 => ?_) (fun h272 => ?_)
                      · skip
                        refine hv_iconst C dX12_advance_279 ?_
                        refine mo_puti C K (σ2 := u2 (sA σ 0 (ua (ua (ua (σ 0) 3 q3) 4 q) 6 nu)) 0 5 1) 5 (by decide) rfl mo_hw fl_127 rfl rfl (ty := .int) (by decide +kernel) rfl rfl dX12_advance_280 ?_
                        refine mo_st (σ2 := sA σ 0 (ua (ua (ua (ua (σ 0) 3 q3) 4 q) 5 1) 6 nu)) (by rw [u2_sA, sA_sA]; rw [show (sA σ 0 (ua (ua (ua (σ 0) 3 q3) 4 q) 6 nu)) 0 = (ua (ua (ua (σ 0) 3 q3) 4 q) 6 nu) from rfl, ua_comm (i := 6) (k := 5) (by decide)]; first | done | rfl) ?_
                        refine hv_goto C 317 dX12_advance_283 (by decide) ?_
                        exact mo_vret (Qc := fun _ _ _ _ => True) C hr hlk (by first | exact congrArg (sA σ 0) (adv_0 zp zc h57).symm | exact congrArg (sA σ 0) (adv_1 zp zc h72 zr9 zw9 (by first | exact if_pos h172 | exact if_neg h172 | omega)).symm | exact congrArg (sA σ 0) (adv_2 zp zc h190 zr9 (by first | exact if_pos (by omega) | exact if_neg (by omega))).symm | exact congrArg (sA σ 0) (adv_3 zp zc (by omega) h72 h190 (by first | exact if_pos h306 | exact if_neg h306)).symm) dX12_advance_317
                      · skip
                        refine hv_iconst C dX12_advance_275 ?_
                        refine hv_goto C 280 dX12_advance_276 (by decide) ?_
                        refine mo_puti C K (σ2 := u2 (sA σ 0 (ua (ua (ua (σ 0) 3 q3) 4 q) 6 nu)) 0 5 4) 5 (by decide) rfl mo_hw fl_127 rfl rfl (ty := .int) (by decide +kernel) rfl rfl dX12_advance_280 ?_
                        refine mo_st (σ2 := sA σ 0 (ua (ua (ua (ua (σ 0) 3 q3) 4 q) 5 4) 6 nu)) (by rw [u2_sA, sA_sA]; rw [show (sA σ 0 (ua (ua (ua (σ 0) 3 q3) 4 q) 6 nu)) 0 = (ua (ua (ua (σ 0) 3 q3) 4 q) 6 nu) from rfl, ua_comm (i := 6) (k := 5) (by decide)]; first | done | rfl) ?_
                        refine hv_goto C 317 dX12_advance_283 (by decide) ?_
                        exact mo_vret (Qc := fun _ _ _ _ => True) C hr hlk (by first | exact congrArg (sA σ 0) (adv_0 zp zc h57).symm | exact congrArg (sA σ 0) (adv_1 zp zc h72 zr9 zw9 (by first | exact if_pos h172 | exact if_neg h172 | omega)).symm | exact congrArg (sA σ 0) (adv_2 zp zc h190 zr9 (by first | exact if_pos (by omega) | exact if_neg (by omega))).symm | exact congrArg (sA σ 0) (adv_3 zp zc (by omega) h72 h190 (by first | exact if_pos h306 | exact if_neg h306)).symm) dX12_advance_317
                    · skip
                      have zl2 := by9_lt (A := σ 1) (n := σ 0 2) (q := q3) (by omega)
                      refine hv_aload_n C 0 0 dX12_advance_212 rfl rfl ?_
                      refine mo_geti C K (x := q3) 3 (by decide) rfl mo_hw fl_117 rfl dX12_advance_213 ?_
                      refine hv_aload_n C 0 0 dX12_advance_216 rfl rfl ?_
                      refine mo_geti C K (x := q) 4 (by decide) rfl mo_hw fl_124 rfl dX12_advance_217 ?_
                      refine hv_isub C dX12_advance_220 ?_
                      refine hv_iconst C dX12_advance_221 ?_
                      refine hv_icmp_ge C 248 dX12_advance_222 (by decide) (by omega) (by omega) (fun h222 => ?_) (fun h222 => ?_)
                      · skip
                        refine hv_aload_n C 0 0 dX12_advance_248 rfl rfl ?_
                        refine hv_dup C dX12_advance_249 rfl ?_
                        refine mo_geti C K (x := q3) 3 (by decide) rfl mo_hw fl_117 rfl dX12_advance_250 ?_
                        refine hv_iconst C dX12_advance_253 ?_
                        refine hv_iadd C dX12_advance_254 ?_
                        refine mo_puti C K (σ2 := u2 (sA σ 0 (ua (ua (ua (σ 0) 3 q3) 4 q) 6 nu)) 0 3 (q3 + 1)) 3 (by decide) rfl mo_hw fl_117 rfl rfl (ty := .int) (by decide +kernel) rfl rfl dX12_advance_255 ?_
                        refine mo_st (σ2 := sA σ 0 (ua (ua (ua (σ 0) 3 (q3 + 1)) 4 q) 6 nu)) (by rw [u2_sA, sA_sA]; rw [show (sA σ 0 (ua (ua (ua (σ 0) 3 q3) 4 q) 6 nu)) 0 = (ua (ua (ua (σ 0) 3 q3) 4 q) 6 nu) from rfl, ua_comm (i := 6) (k := 3) (by decide), ua_comm (i := 4) (k := 3) (by decide), ua_ua]; first | done | rfl) ?_
                        refine hv_goto C 198 dX12_advance_258 (by decide) ?_
                        exact ih198 (q3 + 1) nu (by omega) (by omega) (by first | exact nb_s hv3 (by omega) (by omega) | exact nb_t hv3 (by omega)) (by rw [← hr3]; conv => rhs; rw [dg9_eq, if_pos (by omega)]; first | rw [if_pos (by omega), zb241] | rw [if_neg (by omega)])
                      · skip
                        refine hv_aload_n C 0 0 dX12_advance_225 rfl rfl ?_
                        refine hv_bipush C dX12_advance_226 (by decide) ?_
                        refine hv_aload_n C 0 0 dX12_advance_228 rfl rfl ?_
                        refine mo_geti C K (x := nu) 6 (by decide) rfl mo_hw fl_143 rfl dX12_advance_229 ?_
                        refine hv_imul C dX12_advance_232 ?_
                        refine hv_aload_n C 0 0 dX12_advance_233 rfl rfl ?_
                        refine hv_aload_n C 0 0 dX12_advance_234 rfl rfl ?_
                        refine mo_geti C K (x := q3) 3 (by decide) rfl mo_hw fl_117 rfl dX12_advance_235 ?_
                        refine mo_call [.int (iz q3)] [.int (iz (10 * nu)), .ref a0] C K (k_byteAt l (sA σ 0 (ua (ua (ua (σ 0) 3 q3) 4 q) 6 nu)) q3 (by repeat (first | assumption | refine rg_sA ?_ ?_ | refine in_ua ?_ (by omega) | exact fun _ => hσ _ _)) (by omega) (show σ 0 2 ≤ 500 from hz.2) (by omega)) ck_byteAt (by decide) rfl (Nat.le_of_ble_eq_true rfl) dX12_advance_238 ?_
                        refine hv_as ((if q3 < (σ 0 2) then (σ 1) (1760 + q3.toNat) else -1)) rfl ?_
                        refine hv_nm (fun x5 ex5 => ?_)
                        have rx5 : inI x5 := by rw [ex5]; exact by9_in (fun _ => hσ _ _) _ _
                        have zb241 : by9 (σ 1) (σ 0 2) q3 = x5 := ex5.symm
                        refine hv_iadd C dX12_advance_241 ?_
                        refine hv_bipush C dX12_advance_242 (by decide) ?_
                        refine hv_isub C dX12_advance_244 ?_
                        refine mo_puti C K (σ2 := u2 (sA σ 0 (ua (ua (ua (σ 0) 3 q3) 4 q) 6 nu)) 0 6 (((10 * nu) + x5) - 48)) 6 (by decide) rfl mo_hw fl_143 rfl rfl (ty := .int) (by decide +kernel) rfl rfl dX12_advance_245 ?_
                        refine mo_st (σ2 := sA σ 0 (ua (ua (ua (σ 0) 3 q3) 4 q) 6 (((10 * nu) + x5) - 48))) (by rw [u2_sA, sA_sA]; rw [show (sA σ 0 (ua (ua (ua (σ 0) 3 q3) 4 q) 6 nu)) 0 = (ua (ua (ua (σ 0) 3 q3) 4 q) 6 nu) from rfl, ua_ua]; first | done | rfl) ?_
                        refine hv_aload_n C 0 0 dX12_advance_248 rfl rfl ?_
                        refine hv_dup C dX12_advance_249 rfl ?_
                        refine mo_geti C K (x := q3) 3 (by decide) rfl mo_hw fl_117 rfl dX12_advance_250 ?_
                        refine hv_iconst C dX12_advance_253 ?_
                        refine hv_iadd C dX12_advance_254 ?_
                        refine mo_puti C K (σ2 := u2 (sA σ 0 (ua (ua (ua (σ 0) 3 q3) 4 q) 6 (((10 * nu) + x5) - 48))) 0 3 (q3 + 1)) 3 (by decide) rfl mo_hw fl_117 rfl rfl (ty := .int) (by decide +kernel) rfl rfl dX12_advance_255 ?_
                        refine mo_st (σ2 := sA σ 0 (ua (ua (ua (σ 0) 3 (q3 + 1)) 4 q) 6 (((10 * nu) + x5) - 48))) (by rw [u2_sA, sA_sA]; rw [show (sA σ 0 (ua (ua (ua (σ 0) 3 q3) 4 q) 6 (((10 * nu) + x5) - 48))) 0 = (ua (ua (ua (σ 0) 3 q3) 4 q) 6 (((10 * nu) + x5) - 48)) from rfl, ua_comm (i := 6) (k := 3) (by decide), ua_comm (i := 4) (k := 3) (by decide), ua_ua]; first | done | rfl) ?_
                        refine hv_goto C 198 dX12_advance_258 (by decide) ?_
                        exact ih198 (q3 + 1) (((10 * nu) + x5) - 48) (by omega) (by omega) (by first | exact nb_s hv3 (by omega) (by omega) | exact nb_t hv3 (by omega)) (by rw [← hr3]; conv => rhs; rw [dg9_eq, if_pos (by omega)]; first | rw [if_pos (by omega), zb241] | rw [if_neg (by omega)])
                refine hv_loc [1, 0] [(0, .ref a0), (1, .int (iz x3))] rfl ?_
                exact L198 _ q 0 (Nat.lt_succ_self _) (by omega) nb_0 rfl
            · skip
              refine hv_lconst C 0 dX12_advance_75 rfl ?_
              refine hv_lstore_n C 2 [(2, .long (lz 0)), (1, .int (iz x3)), (0, .ref a0)] dX12_advance_76 rfl (by decide) rfl ?_
              have L77 : ∀ (f : Nat) (q2 : Int) (v : Int), (σ 0 2 - q2).toNat < f → (q ≤ q2 ∧ q2 ≤ σ 0 2) → (vb9 (q2 - q) v) → (lt9 (σ 1) (σ 0 2) q q2 v = lt9 (σ 1) (σ 0 2) q q 0) → hvV p l e { frames := 3, cells := 0, slots := 0, locals := 66 } s m args below meth c 4 (moR a0) 0 0 (MQ below (moQ D cI cZ a0 none (adS σ)) args s 0 0 (moR a0)) (moI D cI cZ a0 s.heap (sA σ 0 (ua (ua (σ 0) 3 q2) 4 q))) 77 [(0, .ref a0), (1, .int (iz x3)), (2, .long (lz v))] [] := by
                intro f
                induction f with
                | zero => intro _ _ hm; exact absurd hm (Nat.not_lt_zero _)
                | succ f ih77 =>
                  intro q2 v hm77 hq2 hv2 hr2
                  have zv := vb_r hv2
                  refine hv_aload_n C 0 0 dX12_advance_77 rfl rfl ?_
                  refine hv_aload_n C 0 0 dX12_advance_78 rfl rfl ?_
                  refine mo_geti C K (x := q2) 3 (by decide) rfl mo_hw fl_117 rfl dX12_advance_79 ?_
                  refine mo_call [.int (iz q2)] [] C K (k_byteAt l (sA σ 0 (ua (ua (σ 0) 3 q2) 4 q)) q2 (by repeat (first | assumption | refine rg_sA ?_ ?_ | refine in_ua ?_ (by omega) | exact fun _ => hσ _ _)) (by omega) (show σ 0 2 ≤ 500 from hz.2) (by omega)) ck_byteAt (by decide) rfl (Nat.le_of_ble_eq_true rfl) dX12_advance_82 ?_
                  refine hv_as ((if q2 < (σ 0 2) then (σ 1) (1760 + q2.toNat) else -1)) rfl ?_
                  refine hv_nm (fun x6 ex6 => ?_)
                  have rx6 : inI x6 := by rw [ex6]; exact by9_in (fun _ => hσ _ _) _ _
                  have zb85 : by9 (σ 1) (σ 0 2) q2 = x6 := ex6.symm
                  refine mo_callS [.int (iz x6)] [] C K (k_isLetter l (sA σ 0 (ua (ua (σ 0) 3 q2) 4 q)) x6 (by omega)) ck_isLetter (by decide) rfl (Nat.le_of_ble_eq_true rfl) dX12_advance_85 ?_
                  refine hv_dif_eq C 138 dX12_advance_88 (by decide)  (fun h88 => ?_) (fun h88 => ?_)
                  · skip
                    have zr9 : lt9 (σ 1) (σ 0 2) q q 0 = (q2, v) := by rw [← hr2, lt9_eq, if_neg (by omega)]
                    refine hv_aload_n C 0 0 dX12_advance_138 rfl rfl ?_
                    refine hv_aload_n C 0 0 dX12_advance_139 rfl rfl ?_
                    refine mo_geti C K (x := q2) 3 (by decide) rfl mo_hw fl_117 rfl dX12_advance_140 ?_
                    refine hv_aload_n C 0 0 dX12_advance_143 rfl rfl ?_
                    refine mo_geti C K (x := q) 4 (by decide) rfl mo_hw fl_124 rfl dX12_advance_144 ?_
                    refine hv_isub C dX12_advance_147 ?_
                    refine hv_bipush C dX12_advance_148 (by decide) ?_
                    refine hv_icmp_le C 158 dX12_advance_150 (by decide) (by omega) (by omega) (fun h150 => ?_) (fun h150 => ?_)
                    · skip
                      refine hv_lload_n C 2 2 dX12_advance_158 rfl rfl ?_
                      refine mo_callS [.long (lz v)] [.ref a0] C K (k_wordOf l (sA σ 0 (ua (ua (σ 0) 3 q2) 4 q)) v (by omega)) ck_wordOf (by decide) rfl (Nat.le_of_ble_eq_true rfl) dX12_advance_159 ?_
                      refine hv_nm (fun x7 ex7 => ?_)
                      have rx7 : inI x7 := by rw [ex7]; exact (by have z := wrd_in v; exact ⟨by omega, by omega⟩)
                      have zw9 : wo9 q2 q v = x7 := by unfold wo9; first | (rw [if_pos (by omega)]; done) | (rw [if_neg (by omega)]; omega)
                      refine mo_puti C K (σ2 := u2 (sA σ 0 (ua (ua (σ 0) 3 q2) 4 q)) 0 8 x7) 8 (by decide) rfl mo_hw fl_137 rfl rfl (ty := .int) (by decide +kernel) rfl rfl dX12_advance_162 ?_
                      refine mo_st (σ2 := sA σ 0 (ua (ua (ua (σ 0) 3 q2) 4 q) 8 x7)) (by rw [u2_sA, sA_sA]; first | done | rfl) ?_
                      refine hv_aload_n C 0 0 dX12_advance_165 rfl rfl ?_
                      refine hv_aload_n C 0 0 dX12_advance_166 rfl rfl ?_
                      refine mo_geti C K (x := x7) 8 (by decide) rfl mo_hw fl_137 rfl dX12_advance_167 ?_
                      refine hv_bipush C dX12_advance_170 (by decide) ?_
                      refine hv_icmp_ne C 179 dX12_advance_172 (by decide) (by omega) (by omega) (fun h172 => ?_) (fun h172 => ?_)
                      · skip
                        refine hv_iconst C dX12_advance_179 ?_
                        refine mo_puti C K (σ2 := u2 (sA σ 0 (ua (ua (ua (σ 0) 3 q2) 4 q) 8 x7)) 0 5 3) 5 (by decide) rfl mo_hw fl_127 rfl rfl (ty := .int) (by decide +kernel) rfl rfl dX12_advance_180 ?_
                        refine mo_st (σ2 := sA σ 0 (ua (ua (ua (ua (σ 0) 3 q2) 4 q) 5 3) 8 x7)) (by rw [u2_sA, sA_sA]; rw [show (sA σ 0 (ua (ua (ua (σ 0) 3 q2) 4 q) 8 x7)) 0 = (ua (ua (ua (σ 0) 3 q2) 4 q) 8 x7) from rfl, ua_comm (i := 8) (k := 5) (by decide)]; first | done | rfl) ?_
                        refine hv_goto C 317 dX12_advance_183 (by decide) ?_
                        exact mo_vret (Qc := fun _ _ _ _ => True) C hr hlk (by first | exact congrArg (sA σ 0) (adv_0 zp zc h57).symm | exact congrArg (sA σ 0) (adv_1 zp zc h72 zr9 zw9 (by first | exact if_pos h172 | exact if_neg h172 | omega)).symm | exact congrArg (sA σ 0) (adv_2 zp zc h190 zr9 (by first | exact if_pos (by omega) | exact if_neg (by omega))).symm | exact congrArg (sA σ 0) (adv_3 zp zc (by omega) h72 h190 (by first | exact if_pos h306 | exact if_neg h306)).symm) dX12_advance_317
                      · skip
                        refine hv_iconst C dX12_advance_175 ?_
                        refine hv_goto C 180 dX12_advance_176 (by decide) ?_
                        refine mo_puti C K (σ2 := u2 (sA σ 0 (ua (ua (ua (σ 0) 3 q2) 4 q) 8 x7)) 0 5 4) 5 (by decide) rfl mo_hw fl_127 rfl rfl (ty := .int) (by decide +kernel) rfl rfl dX12_advance_180 ?_
                        refine mo_st (σ2 := sA σ 0 (ua (ua (ua (ua (σ 0) 3 q2) 4 q) 5 4) 8 x7)) (by rw [u2_sA, sA_sA]; rw [show (sA σ 0 (ua (ua (ua (σ 0) 3 q2) 4 q) 8 x7)) 0 = (ua (ua (ua (σ 0) 3 q2) 4 q) 8 x7) from rfl, ua_comm (i := 8) (k := 5) (by decide)]; first | done | rfl) ?_
                        refine hv_goto C 317 dX12_advance_183 (by decide) ?_
                        exact mo_vret (Qc := fun _ _ _ _ => True) C hr hlk (by first | exact congrArg (sA σ 0) (adv_0 zp zc h57).symm | exact congrArg (sA σ 0) (adv_1 zp zc h72 zr9 zw9 (by first | exact if_pos h172 | exact if_neg h172 | omega)).symm | exact congrArg (sA σ 0) (adv_2 zp zc h190 zr9 (by first | exact if_pos (by omega) | exact if_neg (by omega))).symm | exact congrArg (sA σ 0) (adv_3 zp zc (by omega) h72 h190 (by first | exact if_pos h306 | exact if_neg h306)).symm) dX12_advance_317
                    · skip
                      refine hv_bipush C dX12_advance_153 (by decide) ?_
                      refine hv_goto C 162 dX12_advance_155 (by decide) ?_
                      have zw9 : wo9 q2 q v = 99 := by unfold wo9; first | (rw [if_pos (by omega)]; done) | (rw [if_neg (by omega)]; omega)
                      refine mo_puti C K (σ2 := u2 (sA σ 0 (ua (ua (σ 0) 3 q2) 4 q)) 0 8 99) 8 (by decide) rfl mo_hw fl_137 rfl rfl (ty := .int) (by decide +kernel) rfl rfl dX12_advance_162 ?_
                      refine mo_st (σ2 := sA σ 0 (ua (ua (ua (σ 0) 3 q2) 4 q) 8 99)) (by rw [u2_sA, sA_sA]; first | done | rfl) ?_
                      refine hv_aload_n C 0 0 dX12_advance_165 rfl rfl ?_
                      refine hv_aload_n C 0 0 dX12_advance_166 rfl rfl ?_
                      refine mo_geti C K (x := 99) 8 (by decide) rfl mo_hw fl_137 rfl dX12_advance_167 ?_
                      refine hv_bipush C dX12_advance_170 (by decide) ?_
                      refine hv_icmp_ne C 179 dX12_advance_172 (by decide) (by decide) (by decide) (fun h => absurd h (by decide)) (fun _ => ?_)
                      refine hv_iconst C dX12_advance_175 ?_
                      refine hv_goto C 180 dX12_advance_176 (by decide) ?_
                      refine mo_puti C K (σ2 := u2 (sA σ 0 (ua (ua (ua (σ 0) 3 q2) 4 q) 8 99)) 0 5 4) 5 (by decide) rfl mo_hw fl_127 rfl rfl (ty := .int) (by decide +kernel) rfl rfl dX12_advance_180 ?_
                      refine mo_st (σ2 := sA σ 0 (ua (ua (ua (ua (σ 0) 3 q2) 4 q) 5 4) 8 99)) (by rw [u2_sA, sA_sA]; rw [show (sA σ 0 (ua (ua (ua (σ 0) 3 q2) 4 q) 8 99)) 0 = (ua (ua (ua (σ 0) 3 q2) 4 q) 8 99) from rfl, ua_comm (i := 8) (k := 5) (by decide)]; first | done | rfl) ?_
                      refine hv_goto C 317 dX12_advance_183 (by decide) ?_
                      exact mo_vret (Qc := fun _ _ _ _ => True) C hr hlk (by first | exact congrArg (sA σ 0) (adv_0 zp zc h57).symm | exact congrArg (sA σ 0) (adv_1 zp zc h72 zr9 zw9 (by first | exact if_pos h172 | exact if_neg h172 | omega)).symm | exact congrArg (sA σ 0) (adv_2 zp zc h190 zr9 (by first | exact if_pos (by omega) | exact if_neg (by omega))).symm | exact congrArg (sA σ 0) (adv_3 zp zc (by omega) h72 h190 (by first | exact if_pos h306 | exact if_neg h306)).symm) dX12_advance_317
                  · skip
                    have zl2 := by9_lt (A := σ 1) (n := σ 0 2) (q := q2) (by omega)
                    refine hv_aload_n C 0 0 dX12_advance_91 rfl rfl ?_
                    refine mo_geti C K (x := q2) 3 (by decide) rfl mo_hw fl_117 rfl dX12_advance_92 ?_
                    refine hv_aload_n C 0 0 dX12_advance_95 rfl rfl ?_
                    refine mo_geti C K (x := q) 4 (by decide) rfl mo_hw fl_124 rfl dX12_advance_96 ?_
                    refine hv_isub C dX12_advance_99 ?_
                    refine hv_bipush C dX12_advance_100 (by decide) ?_
                    refine hv_icmp_ge C 125 dX12_advance_102 (by decide) (by omega) (by omega) (fun h102 => ?_) (fun h102 => ?_)
                    · skip
                      refine hv_aload_n C 0 0 dX12_advance_125 rfl rfl ?_
                      refine hv_dup C dX12_advance_126 rfl ?_
                      refine mo_geti C K (x := q2) 3 (by decide) rfl mo_hw fl_117 rfl dX12_advance_127 ?_
                      refine hv_iconst C dX12_advance_130 ?_
                      refine hv_iadd C dX12_advance_131 ?_
                      refine mo_puti C K (σ2 := u2 (sA σ 0 (ua (ua (σ 0) 3 q2) 4 q)) 0 3 (q2 + 1)) 3 (by decide) rfl mo_hw fl_117 rfl rfl (ty := .int) (by decide +kernel) rfl rfl dX12_advance_132 ?_
                      refine mo_st (σ2 := sA σ 0 (ua (ua (σ 0) 3 (q2 + 1)) 4 q)) (by rw [u2_sA, sA_sA]; rw [show (sA σ 0 (ua (ua (σ 0) 3 q2) 4 q)) 0 = (ua (ua (σ 0) 3 q2) 4 q) from rfl, ua_comm (i := 4) (k := 3) (by decide), ua_ua]; first | done | rfl) ?_
                      refine hv_goto C 77 dX12_advance_135 (by decide) ?_
                      exact ih77 (q2 + 1) v (by omega) (by omega) (by first | exact vb_s hv2 (by omega) (by omega) | exact vb_t hv2 (by omega)) (by rw [← hr2]; conv => rhs; rw [lt9_eq, if_pos (by omega)]; first | rw [if_pos (by omega), zb118] | rw [if_neg (by omega)])
                    · skip
                      refine hv_ldc2 C (n := 32) lc_95 rfl dX12_advance_105 ?_
                      refine hv_lload_n C 2 2 dX12_advance_108 rfl rfl ?_
                      refine hv_lmul C dX12_advance_109 ?_
                      refine hv_aload_n C 0 0 dX12_advance_110 rfl rfl ?_
                      refine hv_aload_n C 0 0 dX12_advance_111 rfl rfl ?_
                      refine mo_geti C K (x := q2) 3 (by decide) rfl mo_hw fl_117 rfl dX12_advance_112 ?_
                      refine mo_call [.int (iz q2)] [.long (lz (32 * v))] C K (k_byteAt l (sA σ 0 (ua (ua (σ 0) 3 q2) 4 q)) q2 (by repeat (first | assumption | refine rg_sA ?_ ?_ | refine in_ua ?_ (by omega) | exact fun _ => hσ _ _)) (by omega) (show σ 0 2 ≤ 500 from hz.2) (by omega)) ck_byteAt (by decide) rfl (Nat.le_of_ble_eq_true rfl) dX12_advance_115 ?_
                      refine hv_as ((if q2 < (σ 0 2) then (σ 1) (1760 + q2.toNat) else -1)) rfl ?_
                      refine hv_nm (fun x8 ex8 => ?_)
                      have rx8 : inI x8 := by rw [ex8]; exact by9_in (fun _ => hσ _ _) _ _
                      have zb118 : by9 (σ 1) (σ 0 2) q2 = x8 := ex8.symm
                      refine hv_i2l C (by omega) dX12_advance_118 ?_
                      refine hv_ladd C dX12_advance_119 ?_
                      refine hv_ldc2 C (n := 96) lc_97 rfl dX12_advance_120 ?_
                      refine hv_lsub C dX12_advance_123 ?_
                      refine hv_lstore_n C 2 [(2, .long (lz (((32 * v) + x8) - 96))), (0, .ref a0), (1, .int (iz x3))] dX12_advance_124 rfl (by decide) rfl ?_
                      refine hv_aload_n C 0 1 dX12_advance_125 rfl rfl ?_
                      refine hv_dup C dX12_advance_126 rfl ?_
                      refine mo_geti C K (x := q2) 3 (by decide) rfl mo_hw fl_117 rfl dX12_advance_127 ?_
                      refine hv_iconst C dX12_advance_130 ?_
                      refine hv_iadd C dX12_advance_131 ?_
                      refine mo_puti C K (σ2 := u2 (sA σ 0 (ua (ua (σ 0) 3 q2) 4 q)) 0 3 (q2 + 1)) 3 (by decide) rfl mo_hw fl_117 rfl rfl (ty := .int) (by decide +kernel) rfl rfl dX12_advance_132 ?_
                      refine mo_st (σ2 := sA σ 0 (ua (ua (σ 0) 3 (q2 + 1)) 4 q)) (by rw [u2_sA, sA_sA]; rw [show (sA σ 0 (ua (ua (σ 0) 3 q2) 4 q)) 0 = (ua (ua (σ 0) 3 q2) 4 q) from rfl, ua_comm (i := 4) (k := 3) (by decide), ua_ua]; first | done | rfl) ?_
                      refine hv_goto C 77 dX12_advance_135 (by decide) ?_
                      refine hv_loc [1, 2, 0] [(0, .ref a0), (1, .int (iz x3)), (2, .long (lz (((32 * v) + x8) - 96)))] rfl ?_
                      exact ih77 (q2 + 1) (((32 * v) + x8) - 96) (by omega) (by omega) (by first | exact vb_s hv2 (by omega) (by omega) | exact vb_t hv2 (by omega)) (by rw [← hr2]; conv => rhs; rw [lt9_eq, if_pos (by omega)]; first | rw [if_pos (by omega), zb118] | rw [if_neg (by omega)])
              refine hv_loc [2, 1, 0] [(0, .ref a0), (1, .int (iz x3)), (2, .long (lz 0))] rfl ?_
              exact L77 _ q 0 (Nat.lt_succ_self _) (by omega) vb_0 rfl
          · skip
            refine hv_aload_n C 0 1 dX12_advance_60 rfl rfl ?_
            refine hv_iconst C dX12_advance_61 ?_
            refine mo_puti C K (σ2 := u2 (sA σ 0 (ua (ua (σ 0) 3 q) 4 q)) 0 5 0) 5 (by decide) rfl mo_hw fl_127 rfl rfl (ty := .int) (by decide +kernel) rfl rfl dX12_advance_62 ?_
            refine mo_st (σ2 := sA σ 0 (ua (ua (ua (σ 0) 3 q) 4 q) 5 0)) (by rw [u2_sA, sA_sA]; first | done | rfl) ?_
            refine hv_goto C 317 dX12_advance_65 (by decide) ?_
            exact mo_vret (Qc := fun _ _ _ _ => True) C hr hlk (by first | exact congrArg (sA σ 0) (adv_0 zp zc h57).symm | exact congrArg (sA σ 0) (adv_1 zp zc h72 zr9 zw9 (by first | exact if_pos h172 | exact if_neg h172 | omega)).symm | exact congrArg (sA σ 0) (adv_2 zp zc h190 zr9 (by first | exact if_pos (by omega) | exact if_neg (by omega))).symm | exact congrArg (sA σ 0) (adv_3 zp zc (by omega) h72 h190 (by first | exact if_pos h306 | exact if_neg h306)).symm) dX12_advance_317
        · skip
          have zl := by9_lt (A := σ 1) (n := σ 0 2) (q := q) (by omega)
          refine hv_aload_n C 0 0 dX12_advance_26 rfl rfl ?_
          refine hv_dup C dX12_advance_27 rfl ?_
          refine mo_geti C K (x := q) 3 (by decide) rfl mo_hw fl_117 rfl dX12_advance_28 ?_
          refine hv_iconst C dX12_advance_31 ?_
          refine hv_iadd C dX12_advance_32 ?_
          refine mo_puti C K (σ2 := u2 (sA σ 0 (ua (σ 0) 3 q)) 0 3 (q + 1)) 3 (by decide) rfl mo_hw fl_117 rfl rfl (ty := .int) (by decide +kernel) rfl rfl dX12_advance_33 ?_
          refine mo_st (σ2 := sA σ 0 (ua (σ 0) 3 (q + 1))) (by rw [u2_sA, sA_sA]; rw [show (sA σ 0 (ua (σ 0) 3 q)) 0 = (ua (σ 0) 3 q) from rfl, ua_ua]; first | done | rfl) ?_
          refine hv_goto C 0 dX12_advance_36 (by decide) ?_
          exact ih0 (q + 1) (by omega) (by omega) (by rw [← hq0]; conv => rhs; rw [sk9_eq, if_pos (by omega)])
  refine mo_st (σ2 := sA σ 0 (ua (σ 0) 3 (σ 0 3))) (fi_id σ 3) ?_
  exact L0 _ (σ 0 3) (Nat.lt_succ_self _) (by omega) rfl
