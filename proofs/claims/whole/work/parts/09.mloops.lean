/-! who sends what: the functions that the reference computes, over A -/
theorem lo_rng (A : Nat → Int) (z : Nat) (d t : Int) (hz : z < 4) (hd : 0 ≤ d ∧ d ≤ 199) (ht : 0 ≤ t ∧ t ≤ 60) : -6 ≤ lo A z d t ∧ lo A z d t ≤ 9700 := by
  unfold lo; split <;> omega
abbrev ok_hour (A : Nat → Int) (network day slot slots town sort stations : Int) : Prop := ¬ A 4 = 24 ∧ (0 ≤ network ∧ network ≤ 2) ∧ (0 ≤ day ∧ day ≤ 199) ∧ (0 ≤ slot ∧ slot ≤ 47) ∧ (1 ≤ slots ∧ slots ≤ 4) ∧ slot + slots ≤ 48 ∧ (0 ≤ town ∧ town ≤ A 0 - 1) ∧ (0 ≤ sort ∧ sort ≤ 7) ∧ (0 ≤ stations ∧ stations ≤ 2 ^ (A 2).toNat - 1)
def do_hour (A : Nat → Int) (network day slot slots town sort stations : Int) : Nat → Int := ua (ua (ua (ua (ua (ua (ua (ua (ua A (280 + 8 * (A 4).toNat) network) (280 + 8 * (A 4).toNat + 1) day) (280 + 8 * (A 4).toNat + 2) slot) (280 + 8 * (A 4).toNat + 3) slots) (280 + 8 * (A 4).toNat + 4) town) (280 + 8 * (A 4).toNat + 5) sort) (280 + 8 * (A 4).toNat + 6) stations) (280 + 8 * (A 4).toNat + 7) (A 8)) 4 (A 4 + 1)
def twc (A : Nat → Int) (z : Nat) (d t p : Int) : Int := if (0 ≤ p ∧ p ≤ 9599) ∧ lo A z (p / 48) (p % 48) = 48 * d + t then 1 else 0
def tws (A : Nat → Int) (z : Nat) (d t : Int) : Nat → Int
  | 0 => 0
  | j + 1 => tws A z d t j + twc A z d t (48 * d + t + 2 * (z : Int) - 2 + 2 * (j : Int))
def mb (A : Nat → Int) (s d : Int) : Nat → Int × Int
  | 0 => (-1, -1)
  | i + 1 => if A (120 + 4 * i) = s ∧ A (120 + 4 * i + 2) ≤ d ∧ (A 9 = -1 ∨ A (120 + 4 * i + 3) ≤ A 9) ∧ (mb A s d i).1 ≤ A (120 + 4 * i + 2) then (A (120 + 4 * i + 2), A (120 + 4 * i + 1)) else mb A s d i
def member (A : Nat → Int) (s d : Int) : Int := (mb A s d (A 3).toNat).2
def bk (A : Nat → Int) (s d t : Int) : Nat → Int
  | 0 => -1
  | i + 1 => if (A 9 = -1 ∨ A (480 + 6 * i + 5) ≤ A 9) ∧ (A (480 + 6 * i) = -1 ∨ A (480 + 6 * i) = s) ∧ A (480 + 6 * i + 1) = d ∧ (A (480 + 6 * i + 2) ≤ t ∧ t ≤ A (480 + 6 * i + 3)) ∧ (bk A s d t i < 0 ∨ A (480 + 6 * (bk A s d t i).toNat + 4) ≤ A (480 + 6 * i + 4)) then (i : Int) else bk A s d t i
def fdw (a b c d e : Int) (i : Nat) : Int := if (i : Int) < 4 then a else if (i : Int) < 8 then b else if (i : Int) < 12 then c else if (i : Int) < 16 then d else e
def fd (A : Nat → Int) (a b c d e : Int) : Nat → (Nat → Int)
  | 0 => A
  | i + 1 => ua (ua (fd A a b c d e i) (1760 + ((fd A a b c d e i) 10).toNat) (fdw a b c d e i / 2 ^ ((24 - 8 * ((i : Int) % 4)) : Int).toNat % 2 ^ 8)) 10 ((fd A a b c d e i) 10 + 1)
theorem mb_in {A : Nat → Int} (hA : ∀ i, inI (A i)) (s d : Int) : ∀ i, inI (mb A s d i).1 ∧ inI (mb A s d i).2
  | 0 => ⟨⟨by simp [mb], by simp [mb]⟩, ⟨by simp [mb], by simp [mb]⟩⟩
  | i + 1 => by
    unfold mb
    split
    · exact ⟨hA _, hA _⟩
    · exact mb_in hA s d i

theorem dX12_hour_0 : decode cX12_hour 0 = .ok (.aload_n 0, 1) := by decide +kernel
theorem dX12_hour_1 : decode cX12_hour 1 = .ok (.getfield 7, 3) := by decide +kernel
theorem dX12_hour_4 : decode cX12_hour 4 = .ok (.iconst 4, 1) := by decide +kernel
theorem dX12_hour_5 : decode cX12_hour 5 = .ok (.iaload, 1) := by decide +kernel
theorem dX12_hour_6 : decode cX12_hour 6 = .ok (.bipush 24, 2) := by decide +kernel
theorem dX12_hour_8 : decode cX12_hour 8 = .ok (.if_icmp .eq 45, 3) := by decide +kernel
theorem dX12_hour_11 : decode cX12_hour 11 = .ok (.iload_n 1, 1) := by decide +kernel
theorem dX12_hour_12 : decode cX12_hour 12 = .ok (.iconst 0, 1) := by decide +kernel
theorem dX12_hour_13 : decode cX12_hour 13 = .ok (.iconst 2, 1) := by decide +kernel
theorem dX12_hour_14 : decode cX12_hour 14 = .ok (.invokestatic 59, 3) := by decide +kernel
theorem dX12_hour_17 : decode cX12_hour 17 = .ok (.ifCond .eq 36, 3) := by decide +kernel
theorem dX12_hour_20 : decode cX12_hour 20 = .ok (.iload_n 2, 1) := by decide +kernel
theorem dX12_hour_21 : decode cX12_hour 21 = .ok (.invokestatic 75, 3) := by decide +kernel
theorem dX12_hour_24 : decode cX12_hour 24 = .ok (.ifCond .eq 29, 3) := by decide +kernel
theorem dX12_hour_27 : decode cX12_hour 27 = .ok (.iload_n 3, 1) := by decide +kernel
theorem dX12_hour_28 : decode cX12_hour 28 = .ok (.invokestatic 81, 3) := by decide +kernel
theorem dX12_hour_31 : decode cX12_hour 31 = .ok (.ifCond .eq 22, 3) := by decide +kernel
theorem dX12_hour_34 : decode cX12_hour 34 = .ok (.iload 4, 2) := by decide +kernel
theorem dX12_hour_36 : decode cX12_hour 36 = .ok (.iconst 1, 1) := by decide +kernel
theorem dX12_hour_37 : decode cX12_hour 37 = .ok (.iconst 4, 1) := by decide +kernel
theorem dX12_hour_38 : decode cX12_hour 38 = .ok (.invokestatic 59, 3) := by decide +kernel
theorem dX12_hour_41 : decode cX12_hour 41 = .ok (.ifCond .eq 12, 3) := by decide +kernel
theorem dX12_hour_44 : decode cX12_hour 44 = .ok (.iload_n 3, 1) := by decide +kernel
theorem dX12_hour_45 : decode cX12_hour 45 = .ok (.iload 4, 2) := by decide +kernel
theorem dX12_hour_47 : decode cX12_hour 47 = .ok (.iadd, 1) := by decide +kernel
theorem dX12_hour_48 : decode cX12_hour 48 = .ok (.bipush 48, 2) := by decide +kernel
theorem dX12_hour_50 : decode cX12_hour 50 = .ok (.if_icmp .le 5, 3) := by decide +kernel
theorem dX12_hour_53 : decode cX12_hour 53 = .ok (.iconst (-1), 1) := by decide +kernel
theorem dX12_hour_54 : decode cX12_hour 54 = .ok (.ireturn, 1) := by decide +kernel
theorem dX12_hour_55 : decode cX12_hour 55 = .ok (.aload_n 0, 1) := by decide +kernel
theorem dX12_hour_56 : decode cX12_hour 56 = .ok (.iload 5, 2) := by decide +kernel
theorem dX12_hour_58 : decode cX12_hour 58 = .ok (.iconst 0, 1) := by decide +kernel
theorem dX12_hour_59 : decode cX12_hour 59 = .ok (.invokevirtual 63, 3) := by decide +kernel
theorem dX12_hour_62 : decode cX12_hour 62 = .ok (.ifCond .eq 33, 3) := by decide +kernel
theorem dX12_hour_65 : decode cX12_hour 65 = .ok (.iload 6, 2) := by decide +kernel
theorem dX12_hour_67 : decode cX12_hour 67 = .ok (.iconst 0, 1) := by decide +kernel
theorem dX12_hour_68 : decode cX12_hour 68 = .ok (.bipush 7, 2) := by decide +kernel
theorem dX12_hour_70 : decode cX12_hour 70 = .ok (.invokestatic 59, 3) := by decide +kernel
theorem dX12_hour_73 : decode cX12_hour 73 = .ok (.ifCond .eq 22, 3) := by decide +kernel
theorem dX12_hour_76 : decode cX12_hour 76 = .ok (.iload 7, 2) := by decide +kernel
theorem dX12_hour_78 : decode cX12_hour 78 = .ok (.iconst 0, 1) := by decide +kernel
theorem dX12_hour_79 : decode cX12_hour 79 = .ok (.iconst 1, 1) := by decide +kernel
theorem dX12_hour_80 : decode cX12_hour 80 = .ok (.aload_n 0, 1) := by decide +kernel
theorem dX12_hour_81 : decode cX12_hour 81 = .ok (.getfield 7, 3) := by decide +kernel
theorem dX12_hour_84 : decode cX12_hour 84 = .ok (.iconst 2, 1) := by decide +kernel
theorem dX12_hour_85 : decode cX12_hour 85 = .ok (.iaload, 1) := by decide +kernel
theorem dX12_hour_86 : decode cX12_hour 86 = .ok (.ishl, 1) := by decide +kernel
theorem dX12_hour_87 : decode cX12_hour 87 = .ok (.iconst 1, 1) := by decide +kernel
theorem dX12_hour_88 : decode cX12_hour 88 = .ok (.isub, 1) := by decide +kernel
theorem dX12_hour_89 : decode cX12_hour 89 = .ok (.invokestatic 59, 3) := by decide +kernel
theorem dX12_hour_92 : decode cX12_hour 92 = .ok (.ifCond .ne 5, 3) := by decide +kernel
theorem dX12_hour_95 : decode cX12_hour 95 = .ok (.iconst (-1), 1) := by decide +kernel
theorem dX12_hour_96 : decode cX12_hour 96 = .ok (.ireturn, 1) := by decide +kernel
theorem dX12_hour_97 : decode cX12_hour 97 = .ok (.sipush 280, 3) := by decide +kernel
theorem dX12_hour_100 : decode cX12_hour 100 = .ok (.bipush 8, 2) := by decide +kernel
theorem dX12_hour_102 : decode cX12_hour 102 = .ok (.aload_n 0, 1) := by decide +kernel
theorem dX12_hour_103 : decode cX12_hour 103 = .ok (.getfield 7, 3) := by decide +kernel
theorem dX12_hour_106 : decode cX12_hour 106 = .ok (.iconst 4, 1) := by decide +kernel
theorem dX12_hour_107 : decode cX12_hour 107 = .ok (.iaload, 1) := by decide +kernel
theorem dX12_hour_108 : decode cX12_hour 108 = .ok (.imul, 1) := by decide +kernel
theorem dX12_hour_109 : decode cX12_hour 109 = .ok (.iadd, 1) := by decide +kernel
theorem dX12_hour_110 : decode cX12_hour 110 = .ok (.istore 8, 2) := by decide +kernel
theorem dX12_hour_112 : decode cX12_hour 112 = .ok (.aload_n 0, 1) := by decide +kernel
theorem dX12_hour_113 : decode cX12_hour 113 = .ok (.getfield 7, 3) := by decide +kernel
theorem dX12_hour_116 : decode cX12_hour 116 = .ok (.iload 8, 2) := by decide +kernel
theorem dX12_hour_118 : decode cX12_hour 118 = .ok (.iload_n 1, 1) := by decide +kernel
theorem dX12_hour_119 : decode cX12_hour 119 = .ok (.iastore, 1) := by decide +kernel
theorem dX12_hour_120 : decode cX12_hour 120 = .ok (.aload_n 0, 1) := by decide +kernel
theorem dX12_hour_121 : decode cX12_hour 121 = .ok (.getfield 7, 3) := by decide +kernel
theorem dX12_hour_124 : decode cX12_hour 124 = .ok (.iload 8, 2) := by decide +kernel
theorem dX12_hour_126 : decode cX12_hour 126 = .ok (.iconst 1, 1) := by decide +kernel
theorem dX12_hour_127 : decode cX12_hour 127 = .ok (.iadd, 1) := by decide +kernel
theorem dX12_hour_128 : decode cX12_hour 128 = .ok (.iload_n 2, 1) := by decide +kernel
theorem dX12_hour_129 : decode cX12_hour 129 = .ok (.iastore, 1) := by decide +kernel
theorem dX12_hour_130 : decode cX12_hour 130 = .ok (.aload_n 0, 1) := by decide +kernel
theorem dX12_hour_131 : decode cX12_hour 131 = .ok (.getfield 7, 3) := by decide +kernel
theorem dX12_hour_134 : decode cX12_hour 134 = .ok (.iload 8, 2) := by decide +kernel
theorem dX12_hour_136 : decode cX12_hour 136 = .ok (.iconst 2, 1) := by decide +kernel
theorem dX12_hour_137 : decode cX12_hour 137 = .ok (.iadd, 1) := by decide +kernel
theorem dX12_hour_138 : decode cX12_hour 138 = .ok (.iload_n 3, 1) := by decide +kernel
theorem dX12_hour_139 : decode cX12_hour 139 = .ok (.iastore, 1) := by decide +kernel
theorem dX12_hour_140 : decode cX12_hour 140 = .ok (.aload_n 0, 1) := by decide +kernel
theorem dX12_hour_141 : decode cX12_hour 141 = .ok (.getfield 7, 3) := by decide +kernel
theorem dX12_hour_144 : decode cX12_hour 144 = .ok (.iload 8, 2) := by decide +kernel
theorem dX12_hour_146 : decode cX12_hour 146 = .ok (.iconst 3, 1) := by decide +kernel
theorem dX12_hour_147 : decode cX12_hour 147 = .ok (.iadd, 1) := by decide +kernel
theorem dX12_hour_148 : decode cX12_hour 148 = .ok (.iload 4, 2) := by decide +kernel
theorem dX12_hour_150 : decode cX12_hour 150 = .ok (.iastore, 1) := by decide +kernel
theorem dX12_hour_151 : decode cX12_hour 151 = .ok (.aload_n 0, 1) := by decide +kernel
theorem dX12_hour_152 : decode cX12_hour 152 = .ok (.getfield 7, 3) := by decide +kernel
theorem dX12_hour_155 : decode cX12_hour 155 = .ok (.iload 8, 2) := by decide +kernel
theorem dX12_hour_157 : decode cX12_hour 157 = .ok (.iconst 4, 1) := by decide +kernel
theorem dX12_hour_158 : decode cX12_hour 158 = .ok (.iadd, 1) := by decide +kernel
theorem dX12_hour_159 : decode cX12_hour 159 = .ok (.iload 5, 2) := by decide +kernel
theorem dX12_hour_161 : decode cX12_hour 161 = .ok (.iastore, 1) := by decide +kernel
theorem dX12_hour_162 : decode cX12_hour 162 = .ok (.aload_n 0, 1) := by decide +kernel
theorem dX12_hour_163 : decode cX12_hour 163 = .ok (.getfield 7, 3) := by decide +kernel
theorem dX12_hour_166 : decode cX12_hour 166 = .ok (.iload 8, 2) := by decide +kernel
theorem dX12_hour_168 : decode cX12_hour 168 = .ok (.iconst 5, 1) := by decide +kernel
theorem dX12_hour_169 : decode cX12_hour 169 = .ok (.iadd, 1) := by decide +kernel
theorem dX12_hour_170 : decode cX12_hour 170 = .ok (.iload 6, 2) := by decide +kernel
theorem dX12_hour_172 : decode cX12_hour 172 = .ok (.iastore, 1) := by decide +kernel
theorem dX12_hour_173 : decode cX12_hour 173 = .ok (.aload_n 0, 1) := by decide +kernel
theorem dX12_hour_174 : decode cX12_hour 174 = .ok (.getfield 7, 3) := by decide +kernel
theorem dX12_hour_177 : decode cX12_hour 177 = .ok (.iload 8, 2) := by decide +kernel
theorem dX12_hour_179 : decode cX12_hour 179 = .ok (.bipush 6, 2) := by decide +kernel
theorem dX12_hour_181 : decode cX12_hour 181 = .ok (.iadd, 1) := by decide +kernel
theorem dX12_hour_182 : decode cX12_hour 182 = .ok (.iload 7, 2) := by decide +kernel
theorem dX12_hour_184 : decode cX12_hour 184 = .ok (.iastore, 1) := by decide +kernel
theorem dX12_hour_185 : decode cX12_hour 185 = .ok (.aload_n 0, 1) := by decide +kernel
theorem dX12_hour_186 : decode cX12_hour 186 = .ok (.getfield 7, 3) := by decide +kernel
theorem dX12_hour_189 : decode cX12_hour 189 = .ok (.iload 8, 2) := by decide +kernel
theorem dX12_hour_191 : decode cX12_hour 191 = .ok (.bipush 7, 2) := by decide +kernel
theorem dX12_hour_193 : decode cX12_hour 193 = .ok (.iadd, 1) := by decide +kernel
theorem dX12_hour_194 : decode cX12_hour 194 = .ok (.aload_n 0, 1) := by decide +kernel
theorem dX12_hour_195 : decode cX12_hour 195 = .ok (.getfield 7, 3) := by decide +kernel
theorem dX12_hour_198 : decode cX12_hour 198 = .ok (.bipush 8, 2) := by decide +kernel
theorem dX12_hour_200 : decode cX12_hour 200 = .ok (.iaload, 1) := by decide +kernel
theorem dX12_hour_201 : decode cX12_hour 201 = .ok (.iastore, 1) := by decide +kernel
theorem dX12_hour_202 : decode cX12_hour 202 = .ok (.aload_n 0, 1) := by decide +kernel
theorem dX12_hour_203 : decode cX12_hour 203 = .ok (.getfield 7, 3) := by decide +kernel
theorem dX12_hour_206 : decode cX12_hour 206 = .ok (.iconst 4, 1) := by decide +kernel
theorem dX12_hour_207 : decode cX12_hour 207 = .ok (.dup2, 1) := by decide +kernel
theorem dX12_hour_208 : decode cX12_hour 208 = .ok (.iaload, 1) := by decide +kernel
theorem dX12_hour_209 : decode cX12_hour 209 = .ok (.iconst 1, 1) := by decide +kernel
theorem dX12_hour_210 : decode cX12_hour 210 = .ok (.iadd, 1) := by decide +kernel
theorem dX12_hour_211 : decode cX12_hour 211 = .ok (.iastore, 1) := by decide +kernel
theorem dX12_hour_212 : decode cX12_hour 212 = .ok (.aload_n 0, 1) := by decide +kernel
theorem dX12_hour_213 : decode cX12_hour 213 = .ok (.getfield 7, 3) := by decide +kernel
theorem dX12_hour_216 : decode cX12_hour 216 = .ok (.iconst 4, 1) := by decide +kernel
theorem dX12_hour_217 : decode cX12_hour 217 = .ok (.iaload, 1) := by decide +kernel
theorem dX12_hour_218 : decode cX12_hour 218 = .ok (.iconst 1, 1) := by decide +kernel
theorem dX12_hour_219 : decode cX12_hour 219 = .ok (.isub, 1) := by decide +kernel
theorem dX12_hour_220 : decode cX12_hour 220 = .ok (.ireturn, 1) := by decide +kernel
set_option maxRecDepth 100000 in
set_option maxHeartbeats 4000000 in
theorem k_hour (l : Launch) {D : va_G} {cI cZ : ClassId} {a0 : Nat} (σ : Nat → Nat → Int) (network : Int) (day : Int) (slot : Int) (slots : Int) (town : Int) (sort : Int) (stations : Int) (hσ : rg σ) (hc : cn (σ 1)) (r_network : inI network) (r_day : inI day) (r_slot : inI slot) (r_slots : inI slots) (r_town : inI town) (r_sort : inI sort) (r_stations : inI stations) : moM l D cI cZ a0 yX12_hour cX12_hour 9 (some .int) 2 44 [.ref a0, .int (iz network), .int (iz day), .int (iz slot), .int (iz slots), .int (iz town), .int (iz sort), .int (iz stations)] σ (some (.int (iz (if ok_hour (σ 1) network day slot slots town sort stations then σ 1 4 else -1)))) (if ok_hour (σ 1) network day slot slots town sort stations then sA σ 1 (do_hour (σ 1) network day slot slots town sort stations) else σ) := by
  refine mo_start (by decide) rfl (Nat.le_of_ble_eq_true rfl) ?_
  intro p e s m args below meth c C K hr hlk
  have hp2 := p2_le (σ 1 2).toNat 8 (by omega)
  refine hv_aload_n C 0 0 dX12_hour_0 rfl rfl ?_
  refine mo_geta C K 0 1 (by decide) rfl mo_hw fl_7 rfl dX12_hour_1 ?_
  refine hv_iconst C dX12_hour_4 ?_
  refine mo_iald C K 1 9040 4 rfl (by omega) (by omega) (by decide) dX12_hour_5 ?_
  refine hv_nm (fun x1 ex1 => ?_)
  have rx1 : inI x1 := by rw [ex1]; exact hσ 1 4
  refine hv_bipush C dX12_hour_6 (by decide) ?_
  refine hv_icmp_eq C 53 dX12_hour_8 (by decide) (by omega) (by omega) (fun h8 => ?_) (fun h8 => ?_)
  · skip
    refine hv_iconst C dX12_hour_53 ?_
    exact mo_iret (Qc := fun _ _ _ _ => True) C hr hlk (by first | exact if_n (by omega) rfl | (refine if_p (by omega) ?_; subst_vars; simp [u2]; try omega)) (by first | exact if_n (by omega) rfl | (refine if_p (by omega) ?_; subst_vars; have hq : (σ 1 4).toNat = n1 := (by omega); simp only [u2_sA, sA_sA, sA_at, do_hour, hq]; congr 2 <;> first | rfl | (simp [ua]; omega) | (congr 1; simp [ua]; omega))) dX12_hour_54
  · skip
    refine hv_iload_n C 1 1 dX12_hour_11 rfl rfl ?_
    refine hv_iconst C dX12_hour_12 ?_
    refine hv_iconst C dX12_hour_13 ?_
    refine mo_callS [.int (iz network), .int (iz 0), .int (iz 2)] [] C K (k_isIn l σ network 0 2 (by omega) (by omega) (by omega)) ck_isIn (by decide) rfl (Nat.le_of_ble_eq_true rfl) dX12_hour_14 ?_
    refine hv_dif_eq C 53 dX12_hour_17 (by decide)  (fun h17 => ?_) (fun h17 => ?_)
    · skip
      refine hv_iconst C dX12_hour_53 ?_
      exact mo_iret (Qc := fun _ _ _ _ => True) C hr hlk (by first | exact if_n (by omega) rfl | (refine if_p (by omega) ?_; subst_vars; simp [u2]; try omega)) (by first | exact if_n (by omega) rfl | (refine if_p (by omega) ?_; subst_vars; have hq : (σ 1 4).toNat = n1 := (by omega); simp only [u2_sA, sA_sA, sA_at, do_hour, hq]; congr 2 <;> first | rfl | (simp [ua]; omega) | (congr 1; simp [ua]; omega))) dX12_hour_54
    · skip
      refine hv_iload_n C 2 2 dX12_hour_20 rfl rfl ?_
      refine mo_callS [.int (iz day)] [] C K (k_isDay l σ day (by omega)) ck_isDay (by decide) rfl (Nat.le_of_ble_eq_true rfl) dX12_hour_21 ?_
      refine hv_dif_eq C 53 dX12_hour_24 (by decide)  (fun h24 => ?_) (fun h24 => ?_)
      · skip
        refine hv_iconst C dX12_hour_53 ?_
        exact mo_iret (Qc := fun _ _ _ _ => True) C hr hlk (by first | exact if_n (by omega) rfl | (refine if_p (by omega) ?_; subst_vars; simp [u2]; try omega)) (by first | exact if_n (by omega) rfl | (refine if_p (by omega) ?_; subst_vars; have hq : (σ 1 4).toNat = n1 := (by omega); simp only [u2_sA, sA_sA, sA_at, do_hour, hq]; congr 2 <;> first | rfl | (simp [ua]; omega) | (congr 1; simp [ua]; omega))) dX12_hour_54
      · skip
        refine hv_iload_n C 3 3 dX12_hour_27 rfl rfl ?_
        refine mo_callS [.int (iz slot)] [] C K (k_isSlot l σ slot (by omega)) ck_isSlot (by decide) rfl (Nat.le_of_ble_eq_true rfl) dX12_hour_28 ?_
        refine hv_dif_eq C 53 dX12_hour_31 (by decide)  (fun h31 => ?_) (fun h31 => ?_)
        · skip
          refine hv_iconst C dX12_hour_53 ?_
          exact mo_iret (Qc := fun _ _ _ _ => True) C hr hlk (by first | exact if_n (by omega) rfl | (refine if_p (by omega) ?_; subst_vars; simp [u2]; try omega)) (by first | exact if_n (by omega) rfl | (refine if_p (by omega) ?_; subst_vars; have hq : (σ 1 4).toNat = n1 := (by omega); simp only [u2_sA, sA_sA, sA_at, do_hour, hq]; congr 2 <;> first | rfl | (simp [ua]; omega) | (congr 1; simp [ua]; omega))) dX12_hour_54
        · skip
          refine hv_iload C 4 4 dX12_hour_34 rfl ?_
          refine hv_iconst C dX12_hour_36 ?_
          refine hv_iconst C dX12_hour_37 ?_
          refine mo_callS [.int (iz slots), .int (iz 1), .int (iz 4)] [] C K (k_isIn l σ slots 1 4 (by omega) (by omega) (by omega)) ck_isIn (by decide) rfl (Nat.le_of_ble_eq_true rfl) dX12_hour_38 ?_
          refine hv_dif_eq C 53 dX12_hour_41 (by decide)  (fun h41 => ?_) (fun h41 => ?_)
          · skip
            refine hv_iconst C dX12_hour_53 ?_
            exact mo_iret (Qc := fun _ _ _ _ => True) C hr hlk (by first | exact if_n (by omega) rfl | (refine if_p (by omega) ?_; subst_vars; simp [u2]; try omega)) (by first | exact if_n (by omega) rfl | (refine if_p (by omega) ?_; subst_vars; have hq : (σ 1 4).toNat = n1 := (by omega); simp only [u2_sA, sA_sA, sA_at, do_hour, hq]; congr 2 <;> first | rfl | (simp [ua]; omega) | (congr 1; simp [ua]; omega))) dX12_hour_54
          · skip
            refine hv_iload_n C 3 3 dX12_hour_44 rfl rfl ?_
            refine hv_iload C 4 4 dX12_hour_45 rfl ?_
            refine hv_iadd C dX12_hour_47 ?_
            refine hv_bipush C dX12_hour_48 (by decide) ?_
            refine hv_icmp_le C 55 dX12_hour_50 (by decide) (by omega) (by omega) (fun h50 => ?_) (fun h50 => ?_)
            · skip
              refine hv_aload_n C 0 0 dX12_hour_55 rfl rfl ?_
              refine hv_iload C 5 5 dX12_hour_56 rfl ?_
              refine hv_iconst C dX12_hour_58 ?_
              refine mo_call [.int (iz town), .int (iz 0)] [] C K (k_isOf l σ town 0 hσ (by omega) (by omega) (by omega)) ck_isOf (by decide) rfl (Nat.le_of_ble_eq_true rfl) dX12_hour_59 ?_
              refine hv_dif_eq C 95 dX12_hour_62 (by decide)  (fun h62 => ?_) (fun h62 => ?_)
              · skip
                refine hv_iconst C dX12_hour_95 ?_
                exact mo_iret (Qc := fun _ _ _ _ => True) C hr hlk (by first | exact if_n (by omega) rfl | (refine if_p (by omega) ?_; subst_vars; simp [u2]; try omega)) (by first | exact if_n (by omega) rfl | (refine if_p (by omega) ?_; subst_vars; have hq : (σ 1 4).toNat = n1 := (by omega); simp only [u2_sA, sA_sA, sA_at, do_hour, hq]; congr 2 <;> first | rfl | (simp [ua]; omega) | (congr 1; simp [ua]; omega))) dX12_hour_96
              · skip
                refine hv_iload C 6 6 dX12_hour_65 rfl ?_
                refine hv_iconst C dX12_hour_67 ?_
                refine hv_bipush C dX12_hour_68 (by decide) ?_
                refine mo_callS [.int (iz sort), .int (iz 0), .int (iz 7)] [] C K (k_isIn l σ sort 0 7 (by omega) (by omega) (by omega)) ck_isIn (by decide) rfl (Nat.le_of_ble_eq_true rfl) dX12_hour_70 ?_
                refine hv_dif_eq C 95 dX12_hour_73 (by decide)  (fun h73 => ?_) (fun h73 => ?_)
                · skip
                  refine hv_iconst C dX12_hour_95 ?_
                  exact mo_iret (Qc := fun _ _ _ _ => True) C hr hlk (by first | exact if_n (by omega) rfl | (refine if_p (by omega) ?_; subst_vars; simp [u2]; try omega)) (by first | exact if_n (by omega) rfl | (refine if_p (by omega) ?_; subst_vars; have hq : (σ 1 4).toNat = n1 := (by omega); simp only [u2_sA, sA_sA, sA_at, do_hour, hq]; congr 2 <;> first | rfl | (simp [ua]; omega) | (congr 1; simp [ua]; omega))) dX12_hour_96
                · skip
                  refine hv_iload C 7 7 dX12_hour_76 rfl ?_
                  refine hv_iconst C dX12_hour_78 ?_
                  refine hv_iconst C dX12_hour_79 ?_
                  refine hv_aload_n C 0 0 dX12_hour_80 rfl rfl ?_
                  refine mo_geta C K 0 1 (by decide) rfl mo_hw fl_7 rfl dX12_hour_81 ?_
                  refine hv_iconst C dX12_hour_84 ?_
                  refine mo_iald C K 1 9040 2 rfl (by omega) (by omega) (by decide) dX12_hour_85 ?_
                  refine hv_ishl1 C (((σ 1 2) : Int)).toNat (by omega) (by omega) dX12_hour_86 ?_
                  refine hv_iconst C dX12_hour_87 ?_
                  refine hv_isub C dX12_hour_88 ?_
                  refine mo_callS [.int (iz stations), .int (iz 0), .int (iz (((2 : Int) ^ (((σ 1 2) : Int)).toNat) - 1))] [] C K (k_isIn l σ stations 0 (((2 : Int) ^ (((σ 1 2) : Int)).toNat) - 1) (by omega) (by omega) (by omega)) ck_isIn (by decide) rfl (Nat.le_of_ble_eq_true rfl) dX12_hour_89 ?_
                  refine hv_dif_ne C 97 dX12_hour_92 (by decide)  (fun h92 => ?_) (fun h92 => ?_)
                  · skip
                    refine hv_sipush C dX12_hour_97 (by decide) ?_
                    refine hv_bipush C dX12_hour_100 (by decide) ?_
                    refine hv_aload_n C 0 0 dX12_hour_102 rfl rfl ?_
                    refine mo_geta C K 0 1 (by decide) rfl mo_hw fl_7 rfl dX12_hour_103 ?_
                    refine hv_iconst C dX12_hour_106 ?_
                    refine mo_iald C K 1 9040 4 rfl (by omega) (by omega) (by decide) dX12_hour_107 ?_
                    refine hv_nm (fun x2 ex2 => ?_)
                    have rx2 : inI x2 := by rw [ex2]; exact hσ 1 4
                    obtain ⟨n1, rfl⟩ : ∃ n : Nat, x2 = (n : Int) := ⟨(x2).toNat, by omega⟩
                    refine hv_imul C dX12_hour_108 ?_
                    refine hv_iadd C dX12_hour_109 ?_
                    refine hv_istore C 8 [(8, .int (iz (280 + (8 * ((n1 : Nat) : Int))))), (0, .ref a0), (1, .int (iz network)), (2, .int (iz day)), (3, .int (iz slot)), (4, .int (iz slots)), (5, .int (iz town)), (6, .int (iz sort)), (7, .int (iz stations))] dX12_hour_110 (by decide) rfl ?_
                    refine hv_aload_n C 0 1 dX12_hour_112 rfl rfl ?_
                    refine mo_geta C K 0 1 (by decide) rfl mo_hw fl_7 rfl dX12_hour_113 ?_
                    refine hv_iload C 8 0 dX12_hour_116 rfl ?_
                    refine hv_iload_n C 1 2 dX12_hour_118 rfl rfl ?_
                    refine mo_iast C K 1 9040 (280 + (8 * n1)) rfl (moW_set1 _ _ _ _ _ _) (by omega) (by omega) (by decide) dX12_hour_119 ?_
                    refine hv_aload_n C 0 1 dX12_hour_120 rfl rfl ?_
                    refine mo_geta C K 0 1 (by decide) rfl mo_hw fl_7 rfl dX12_hour_121 ?_
                    refine hv_iload C 8 0 dX12_hour_124 rfl ?_
                    refine hv_iconst C dX12_hour_126 ?_
                    refine hv_iadd C dX12_hour_127 ?_
                    refine hv_iload_n C 2 3 dX12_hour_128 rfl rfl ?_
                    refine mo_iast C K 1 9040 ((280 + (8 * n1)) + 1) rfl (moW_set1 _ _ _ _ _ _) (by omega) (by omega) (by decide) dX12_hour_129 ?_
                    refine hv_aload_n C 0 1 dX12_hour_130 rfl rfl ?_
                    refine mo_geta C K 0 1 (by decide) rfl mo_hw fl_7 rfl dX12_hour_131 ?_
                    refine hv_iload C 8 0 dX12_hour_134 rfl ?_
                    refine hv_iconst C dX12_hour_136 ?_
                    refine hv_iadd C dX12_hour_137 ?_
                    refine hv_iload_n C 3 4 dX12_hour_138 rfl rfl ?_
                    refine mo_iast C K 1 9040 ((280 + (8 * n1)) + 2) rfl (moW_set1 _ _ _ _ _ _) (by omega) (by omega) (by decide) dX12_hour_139 ?_
                    refine hv_aload_n C 0 1 dX12_hour_140 rfl rfl ?_
                    refine mo_geta C K 0 1 (by decide) rfl mo_hw fl_7 rfl dX12_hour_141 ?_
                    refine hv_iload C 8 0 dX12_hour_144 rfl ?_
                    refine hv_iconst C dX12_hour_146 ?_
                    refine hv_iadd C dX12_hour_147 ?_
                    refine hv_iload C 4 5 dX12_hour_148 rfl ?_
                    refine mo_iast C K 1 9040 ((280 + (8 * n1)) + 3) rfl (moW_set1 _ _ _ _ _ _) (by omega) (by omega) (by decide) dX12_hour_150 ?_
                    refine hv_aload_n C 0 1 dX12_hour_151 rfl rfl ?_
                    refine mo_geta C K 0 1 (by decide) rfl mo_hw fl_7 rfl dX12_hour_152 ?_
                    refine hv_iload C 8 0 dX12_hour_155 rfl ?_
                    refine hv_iconst C dX12_hour_157 ?_
                    refine hv_iadd C dX12_hour_158 ?_
                    refine hv_iload C 5 6 dX12_hour_159 rfl ?_
                    refine mo_iast C K 1 9040 ((280 + (8 * n1)) + 4) rfl (moW_set1 _ _ _ _ _ _) (by omega) (by omega) (by decide) dX12_hour_161 ?_
                    refine hv_aload_n C 0 1 dX12_hour_162 rfl rfl ?_
                    refine mo_geta C K 0 1 (by decide) rfl mo_hw fl_7 rfl dX12_hour_163 ?_
                    refine hv_iload C 8 0 dX12_hour_166 rfl ?_
                    refine hv_iconst C dX12_hour_168 ?_
                    refine hv_iadd C dX12_hour_169 ?_
                    refine hv_iload C 6 7 dX12_hour_170 rfl ?_
                    refine mo_iast C K 1 9040 ((280 + (8 * n1)) + 5) rfl (moW_set1 _ _ _ _ _ _) (by omega) (by omega) (by decide) dX12_hour_172 ?_
                    refine hv_aload_n C 0 1 dX12_hour_173 rfl rfl ?_
                    refine mo_geta C K 0 1 (by decide) rfl mo_hw fl_7 rfl dX12_hour_174 ?_
                    refine hv_iload C 8 0 dX12_hour_177 rfl ?_
                    refine hv_bipush C dX12_hour_179 (by decide) ?_
                    refine hv_iadd C dX12_hour_181 ?_
                    refine hv_iload C 7 8 dX12_hour_182 rfl ?_
                    refine mo_iast C K 1 9040 ((280 + (8 * n1)) + 6) rfl (moW_set1 _ _ _ _ _ _) (by omega) (by omega) (by decide) dX12_hour_184 ?_
                    refine hv_aload_n C 0 1 dX12_hour_185 rfl rfl ?_
                    refine mo_geta C K 0 1 (by decide) rfl mo_hw fl_7 rfl dX12_hour_186 ?_
                    refine hv_iload C 8 0 dX12_hour_189 rfl ?_
                    refine hv_bipush C dX12_hour_191 (by decide) ?_
                    refine hv_iadd C dX12_hour_193 ?_
                    refine hv_aload_n C 0 1 dX12_hour_194 rfl rfl ?_
                    refine mo_geta C K 0 1 (by decide) rfl mo_hw fl_7 rfl dX12_hour_195 ?_
                    refine hv_bipush C dX12_hour_198 (by decide) ?_
                    refine mo_iald C K 1 9040 8 rfl (by omega) (by omega) (by decide) dX12_hour_200 ?_
                    refine hv_nm (fun x3 ex3 => ?_)
                    refine mo_iast C K 1 9040 ((280 + (8 * n1)) + 7) rfl (moW_set1 _ _ _ _ _ _) (by omega) (by omega) (by decide) dX12_hour_201 ?_
                    refine hv_aload_n C 0 1 dX12_hour_202 rfl rfl ?_
                    refine mo_geta C K 0 1 (by decide) rfl mo_hw fl_7 rfl dX12_hour_203 ?_
                    refine hv_iconst C dX12_hour_206 ?_
                    refine hv_dup2 C dX12_hour_207 rfl rfl ?_
                    refine mo_iald C K 1 9040 4 rfl (by omega) (by omega) (by decide) dX12_hour_208 ?_
                    refine hv_nm (fun x4 ex4 => ?_)
                    refine hv_iconst C dX12_hour_209 ?_
                    refine hv_iadd C dX12_hour_210 ?_
                    refine mo_iast C K 1 9040 4 rfl (moW_set1 _ _ _ _ _ _) (by omega) (by omega) (by decide) dX12_hour_211 ?_
                    refine hv_aload_n C 0 1 dX12_hour_212 rfl rfl ?_
                    refine mo_geta C K 0 1 (by decide) rfl mo_hw fl_7 rfl dX12_hour_213 ?_
                    refine hv_iconst C dX12_hour_216 ?_
                    refine mo_iald C K 1 9040 4 rfl (by omega) (by omega) (by decide) dX12_hour_217 ?_
                    refine hv_nm (fun x5 ex5 => ?_)
                    refine hv_iconst C dX12_hour_218 ?_
                    refine hv_isub C dX12_hour_219 ?_
                    exact mo_iret (Qc := fun _ _ _ _ => True) C hr hlk (by first | exact if_n (by omega) rfl | (refine if_p (by omega) ?_; subst_vars; simp [u2]; try omega)) (by first | exact if_n (by omega) rfl | (refine if_p (by omega) ?_; subst_vars; have hq : (σ 1 4).toNat = n1 := (by omega); simp only [u2_sA, sA_sA, sA_at, do_hour, hq]; congr 2 <;> first | rfl | (simp [ua]; omega) | (congr 1; simp [ua]; omega))) dX12_hour_220
                  · skip
                    refine hv_iconst C dX12_hour_95 ?_
                    exact mo_iret (Qc := fun _ _ _ _ => True) C hr hlk (by first | exact if_n (by omega) rfl | (refine if_p (by omega) ?_; subst_vars; simp [u2]; try omega)) (by first | exact if_n (by omega) rfl | (refine if_p (by omega) ?_; subst_vars; have hq : (σ 1 4).toNat = n1 := (by omega); simp only [u2_sA, sA_sA, sA_at, do_hour, hq]; congr 2 <;> first | rfl | (simp [ua]; omega) | (congr 1; simp [ua]; omega))) dX12_hour_96
            · skip
              refine hv_iconst C dX12_hour_53 ?_
              exact mo_iret (Qc := fun _ _ _ _ => True) C hr hlk (by first | exact if_n (by omega) rfl | (refine if_p (by omega) ?_; subst_vars; simp [u2]; try omega)) (by first | exact if_n (by omega) rfl | (refine if_p (by omega) ?_; subst_vars; have hq : (σ 1 4).toNat = n1 := (by omega); simp only [u2_sA, sA_sA, sA_at, do_hour, hq]; congr 2 <;> first | rfl | (simp [ua]; omega) | (congr 1; simp [ua]; omega))) dX12_hour_54
theorem dX12_twice_0 : decode cX12_twice 0 = .ok (.iload_n 1, 1) := by decide +kernel
theorem dX12_twice_1 : decode cX12_twice 1 = .ok (.iconst 0, 1) := by decide +kernel
theorem dX12_twice_2 : decode cX12_twice 2 = .ok (.iconst 3, 1) := by decide +kernel
theorem dX12_twice_3 : decode cX12_twice 3 = .ok (.invokestatic 59, 3) := by decide +kernel
theorem dX12_twice_6 : decode cX12_twice 6 = .ok (.ifCond .eq 21, 3) := by decide +kernel
theorem dX12_twice_9 : decode cX12_twice 9 = .ok (.iload_n 2, 1) := by decide +kernel
theorem dX12_twice_10 : decode cX12_twice 10 = .ok (.iconst (-1), 1) := by decide +kernel
theorem dX12_twice_11 : decode cX12_twice 11 = .ok (.sipush 200, 3) := by decide +kernel
theorem dX12_twice_14 : decode cX12_twice 14 = .ok (.invokestatic 59, 3) := by decide +kernel
theorem dX12_twice_17 : decode cX12_twice 17 = .ok (.ifCond .eq 10, 3) := by decide +kernel
theorem dX12_twice_20 : decode cX12_twice 20 = .ok (.iload_n 3, 1) := by decide +kernel
theorem dX12_twice_21 : decode cX12_twice 21 = .ok (.invokestatic 81, 3) := by decide +kernel
theorem dX12_twice_24 : decode cX12_twice 24 = .ok (.ifCond .ne 5, 3) := by decide +kernel
theorem dX12_twice_27 : decode cX12_twice 27 = .ok (.iconst (-1), 1) := by decide +kernel
theorem dX12_twice_28 : decode cX12_twice 28 = .ok (.ireturn, 1) := by decide +kernel
theorem dX12_twice_29 : decode cX12_twice 29 = .ok (.iconst 0, 1) := by decide +kernel
theorem dX12_twice_30 : decode cX12_twice 30 = .ok (.istore 4, 2) := by decide +kernel
theorem dX12_twice_32 : decode cX12_twice 32 = .ok (.bipush 48, 2) := by decide +kernel
theorem dX12_twice_34 : decode cX12_twice 34 = .ok (.iload_n 2, 1) := by decide +kernel
theorem dX12_twice_35 : decode cX12_twice 35 = .ok (.imul, 1) := by decide +kernel
theorem dX12_twice_36 : decode cX12_twice 36 = .ok (.iload_n 3, 1) := by decide +kernel
theorem dX12_twice_37 : decode cX12_twice 37 = .ok (.iadd, 1) := by decide +kernel
theorem dX12_twice_38 : decode cX12_twice 38 = .ok (.iconst 2, 1) := by decide +kernel
theorem dX12_twice_39 : decode cX12_twice 39 = .ok (.iload_n 1, 1) := by decide +kernel
theorem dX12_twice_40 : decode cX12_twice 40 = .ok (.imul, 1) := by decide +kernel
theorem dX12_twice_41 : decode cX12_twice 41 = .ok (.iadd, 1) := by decide +kernel
theorem dX12_twice_42 : decode cX12_twice 42 = .ok (.iconst 2, 1) := by decide +kernel
theorem dX12_twice_43 : decode cX12_twice 43 = .ok (.isub, 1) := by decide +kernel
theorem dX12_twice_44 : decode cX12_twice 44 = .ok (.istore 5, 2) := by decide +kernel
theorem dX12_twice_46 : decode cX12_twice 46 = .ok (.iload 5, 2) := by decide +kernel
theorem dX12_twice_48 : decode cX12_twice 48 = .ok (.bipush 48, 2) := by decide +kernel
theorem dX12_twice_50 : decode cX12_twice 50 = .ok (.iload_n 2, 1) := by decide +kernel
theorem dX12_twice_51 : decode cX12_twice 51 = .ok (.imul, 1) := by decide +kernel
theorem dX12_twice_52 : decode cX12_twice 52 = .ok (.iload_n 3, 1) := by decide +kernel
theorem dX12_twice_53 : decode cX12_twice 53 = .ok (.iadd, 1) := by decide +kernel
theorem dX12_twice_54 : decode cX12_twice 54 = .ok (.iconst 2, 1) := by decide +kernel
theorem dX12_twice_55 : decode cX12_twice 55 = .ok (.iload_n 1, 1) := by decide +kernel
theorem dX12_twice_56 : decode cX12_twice 56 = .ok (.imul, 1) := by decide +kernel
theorem dX12_twice_57 : decode cX12_twice 57 = .ok (.iadd, 1) := by decide +kernel
theorem dX12_twice_58 : decode cX12_twice 58 = .ok (.if_icmp .gt 55, 3) := by decide +kernel
theorem dX12_twice_61 : decode cX12_twice 61 = .ok (.iload 4, 2) := by decide +kernel
theorem dX12_twice_63 : decode cX12_twice 63 = .ok (.iload 5, 2) := by decide +kernel
theorem dX12_twice_65 : decode cX12_twice 65 = .ok (.iconst 0, 1) := by decide +kernel
theorem dX12_twice_66 : decode cX12_twice 66 = .ok (.sipush 9599, 3) := by decide +kernel
theorem dX12_twice_69 : decode cX12_twice 69 = .ok (.invokestatic 59, 3) := by decide +kernel
theorem dX12_twice_72 : decode cX12_twice 72 = .ok (.ifCond .eq 31, 3) := by decide +kernel
theorem dX12_twice_75 : decode cX12_twice 75 = .ok (.aload_n 0, 1) := by decide +kernel
theorem dX12_twice_76 : decode cX12_twice 76 = .ok (.iload_n 1, 1) := by decide +kernel
theorem dX12_twice_77 : decode cX12_twice 77 = .ok (.iload 5, 2) := by decide +kernel
theorem dX12_twice_79 : decode cX12_twice 79 = .ok (.bipush 48, 2) := by decide +kernel
theorem dX12_twice_81 : decode cX12_twice 81 = .ok (.idiv, 1) := by decide +kernel
theorem dX12_twice_82 : decode cX12_twice 82 = .ok (.iload 5, 2) := by decide +kernel
theorem dX12_twice_84 : decode cX12_twice 84 = .ok (.bipush 48, 2) := by decide +kernel
theorem dX12_twice_86 : decode cX12_twice 86 = .ok (.irem, 1) := by decide +kernel
theorem dX12_twice_87 : decode cX12_twice 87 = .ok (.invokevirtual 84, 3) := by decide +kernel
theorem dX12_twice_90 : decode cX12_twice 90 = .ok (.bipush 48, 2) := by decide +kernel
theorem dX12_twice_92 : decode cX12_twice 92 = .ok (.iload_n 2, 1) := by decide +kernel
theorem dX12_twice_93 : decode cX12_twice 93 = .ok (.imul, 1) := by decide +kernel
theorem dX12_twice_94 : decode cX12_twice 94 = .ok (.iload_n 3, 1) := by decide +kernel
theorem dX12_twice_95 : decode cX12_twice 95 = .ok (.iadd, 1) := by decide +kernel
theorem dX12_twice_96 : decode cX12_twice 96 = .ok (.if_icmp .ne 7, 3) := by decide +kernel
theorem dX12_twice_99 : decode cX12_twice 99 = .ok (.iconst 1, 1) := by decide +kernel
theorem dX12_twice_100 : decode cX12_twice 100 = .ok (.goto 4, 3) := by decide +kernel
theorem dX12_twice_103 : decode cX12_twice 103 = .ok (.iconst 0, 1) := by decide +kernel
theorem dX12_twice_104 : decode cX12_twice 104 = .ok (.iadd, 1) := by decide +kernel
theorem dX12_twice_105 : decode cX12_twice 105 = .ok (.istore 4, 2) := by decide +kernel
theorem dX12_twice_107 : decode cX12_twice 107 = .ok (.iinc 5 2, 3) := by decide +kernel
theorem dX12_twice_110 : decode cX12_twice 110 = .ok (.goto (-64), 3) := by decide +kernel
theorem dX12_twice_113 : decode cX12_twice 113 = .ok (.iload 4, 2) := by decide +kernel
theorem dX12_twice_115 : decode cX12_twice 115 = .ok (.ireturn, 1) := by decide +kernel
set_option maxRecDepth 100000 in
set_option maxHeartbeats 4000000 in
theorem k_twice (l : Launch) {D : va_G} {cI cZ : ClassId} {a0 : Nat} (σ : Nat → Nat → Int) (zone : Int) (day : Int) (slot : Int) (hσ : rg σ) (hc : cn (σ 1)) (r_zone : inI zone) (r_day : inI day) (r_slot : inI slot) : moM l D cI cZ a0 yX12_twice cX12_twice 6 (some .int) 3 67 [.ref a0, .int (iz zone), .int (iz day), .int (iz slot)] σ (some (.int (iz (if (0 ≤ zone ∧ zone ≤ 3) ∧ (-1 ≤ day ∧ day ≤ 200) ∧ (0 ≤ slot ∧ slot ≤ 47) then tws (σ 1) zone.toNat day slot 2 else -1)))) (σ) := by
  refine mo_start (by decide) rfl (Nat.le_of_ble_eq_true rfl) ?_
  intro p e s m args below meth c C K hr hlk
  refine hv_iload_n C 1 1 dX12_twice_0 rfl rfl ?_
  refine hv_iconst C dX12_twice_1 ?_
  refine hv_iconst C dX12_twice_2 ?_
  refine mo_callS [.int (iz zone), .int (iz 0), .int (iz 3)] [] C K (k_isIn l σ zone 0 3 (by omega) (by omega) (by omega)) ck_isIn (by decide) rfl (Nat.le_of_ble_eq_true rfl) dX12_twice_3 ?_
  refine hv_dif_eq C 27 dX12_twice_6 (by decide)  (fun h6 => ?_) (fun h6 => ?_)
  · skip
    refine hv_iconst C dX12_twice_27 ?_
    exact mo_iret (Qc := fun _ _ _ _ => True) C hr hlk (by first | exact if_n (by omega) rfl | (refine if_p (by omega) ?_; have hq : j = 2 := (by omega); subst hq; simp only [Int.toNat_natCast]; exact hn)) rfl dX12_twice_28
  · skip
    refine hv_iload_n C 2 2 dX12_twice_9 rfl rfl ?_
    refine hv_iconst C dX12_twice_10 ?_
    refine hv_sipush C dX12_twice_11 (by decide) ?_
    refine mo_callS [.int (iz day), .int (iz (-1)), .int (iz 200)] [] C K (k_isIn l σ day (-1) 200 (by omega) (by omega) (by omega)) ck_isIn (by decide) rfl (Nat.le_of_ble_eq_true rfl) dX12_twice_14 ?_
    refine hv_dif_eq C 27 dX12_twice_17 (by decide)  (fun h17 => ?_) (fun h17 => ?_)
    · skip
      refine hv_iconst C dX12_twice_27 ?_
      exact mo_iret (Qc := fun _ _ _ _ => True) C hr hlk (by first | exact if_n (by omega) rfl | (refine if_p (by omega) ?_; have hq : j = 2 := (by omega); subst hq; simp only [Int.toNat_natCast]; exact hn)) rfl dX12_twice_28
    · skip
      refine hv_iload_n C 3 3 dX12_twice_20 rfl rfl ?_
      refine mo_callS [.int (iz slot)] [] C K (k_isSlot l σ slot (by omega)) ck_isSlot (by decide) rfl (Nat.le_of_ble_eq_true rfl) dX12_twice_21 ?_
      refine hv_dif_ne C 29 dX12_twice_24 (by decide)  (fun h24 => ?_) (fun h24 => ?_)
      · skip
        obtain ⟨zn, rfl⟩ : ∃ n : Nat, zone = (n : Int) := ⟨(zone).toNat, by omega⟩
        refine hv_iconst C dX12_twice_29 ?_
        refine hv_istore C 4 [(4, .int (iz 0)), (0, .ref a0), (1, .int (iz ((zn : Nat) : Int))), (2, .int (iz day)), (3, .int (iz slot))] dX12_twice_30 (by decide) rfl ?_
        refine hv_bipush C dX12_twice_32 (by decide) ?_
        refine hv_iload_n C 2 3 dX12_twice_34 rfl rfl ?_
        refine hv_imul C dX12_twice_35 ?_
        refine hv_iload_n C 3 4 dX12_twice_36 rfl rfl ?_
        refine hv_iadd C dX12_twice_37 ?_
        refine hv_iconst C dX12_twice_38 ?_
        refine hv_iload_n C 1 2 dX12_twice_39 rfl rfl ?_
        refine hv_imul C dX12_twice_40 ?_
        refine hv_iadd C dX12_twice_41 ?_
        refine hv_iconst C dX12_twice_42 ?_
        refine hv_isub C dX12_twice_43 ?_
        refine hv_istore C 5 [(5, .int (iz ((((48 * day) + slot) + (2 * ((zn : Nat) : Int))) - 2))), (4, .int (iz 0)), (0, .ref a0), (1, .int (iz ((zn : Nat) : Int))), (2, .int (iz day)), (3, .int (iz slot))] dX12_twice_44 (by decide) rfl ?_
        have L46 : ∀ (f : Nat) (n : Int) (p0 : Int) (j : Nat), 2 - j < f → j ≤ 2 → p0 = 48 * day + slot + 2 * (zn : Int) - 2 + 2 * (j : Int) → n = tws (σ 1) zn day slot j → hvV p l e { frames := 3, cells := 0, slots := 0, locals := 67 } s m args below meth c 6 (moR a0) 0 0 (MQ below (moQ D cI cZ a0 (some (.int (iz (if (0 ≤ ((zn : Nat) : Int) ∧ ((zn : Nat) : Int) ≤ 3) ∧ (-1 ≤ day ∧ day ≤ 200) ∧ (0 ≤ slot ∧ slot ≤ 47) then tws (σ 1) ((zn : Nat) : Int).toNat day slot 2 else -1)))) (σ)) args s 0 0 (moR a0)) (moI D cI cZ a0 s.heap σ) 46 [(0, .ref a0), (1, .int (iz ((zn : Nat) : Int))), (2, .int (iz day)), (3, .int (iz slot)), (4, .int (iz n)), (5, .int (iz p0))] [] := by
          intro f
          induction f with
          | zero => intro _ _ _ hm; exact absurd hm (Nat.not_lt_zero _)
          | succ f ih46 =>
            intro n p0 j hm46 hj hp hn
            refine hv_iload C 5 5 dX12_twice_46 rfl ?_
            refine hv_bipush C dX12_twice_48 (by decide) ?_
            refine hv_iload_n C 2 2 dX12_twice_50 rfl rfl ?_
            refine hv_imul C dX12_twice_51 ?_
            refine hv_iload_n C 3 3 dX12_twice_52 rfl rfl ?_
            refine hv_iadd C dX12_twice_53 ?_
            refine hv_iconst C dX12_twice_54 ?_
            refine hv_iload_n C 1 1 dX12_twice_55 rfl rfl ?_
            refine hv_imul C dX12_twice_56 ?_
            refine hv_iadd C dX12_twice_57 ?_
            refine hv_icmp_gt C 113 dX12_twice_58 (by decide) (by omega) (by omega) (fun h58 => ?_) (fun h58 => ?_)
            · skip
              refine hv_iload C 4 4 dX12_twice_113 rfl ?_
              exact mo_iret (Qc := fun _ _ _ _ => True) C hr hlk (by first | exact if_n (by omega) rfl | (refine if_p (by omega) ?_; have hq : j = 2 := (by omega); subst hq; simp only [Int.toNat_natCast]; exact hn)) rfl dX12_twice_115
            · skip
              refine hv_iload C 4 4 dX12_twice_61 rfl ?_
              refine hv_iload C 5 5 dX12_twice_63 rfl ?_
              refine hv_iconst C dX12_twice_65 ?_
              refine hv_sipush C dX12_twice_66 (by decide) ?_
              refine mo_callS [.int (iz p0), .int (iz 0), .int (iz 9599)] [.int (iz n)] C K (k_isIn l σ p0 0 9599 (by omega) (by omega) (by omega)) ck_isIn (by decide) rfl (Nat.le_of_ble_eq_true rfl) dX12_twice_69 ?_
              refine hv_dif_eq C 103 dX12_twice_72 (by decide)  (fun h72 => ?_) (fun h72 => ?_)
              · skip
                refine hv_iconst C dX12_twice_103 ?_
                refine hv_iadd C dX12_twice_104 ?_
                refine hv_istore C 4 [(4, .int (iz (n + 0))), (0, .ref a0), (1, .int (iz ((zn : Nat) : Int))), (2, .int (iz day)), (3, .int (iz slot)), (5, .int (iz p0))] dX12_twice_105 (by decide) rfl ?_
                refine hv_iinc C 5 5 [(5, .int (iz (p0 + 2))), (4, .int (iz (n + 0))), (0, .ref a0), (1, .int (iz ((zn : Nat) : Int))), (2, .int (iz day)), (3, .int (iz slot))] dX12_twice_107 rfl (by decide) rfl ?_
                refine hv_goto C 46 dX12_twice_110 (by decide) ?_
                refine hv_loc [2, 3, 4, 5, 1, 0] [(0, .ref a0), (1, .int (iz ((zn : Nat) : Int))), (2, .int (iz day)), (3, .int (iz slot)), (4, .int (iz (n + 0))), (5, .int (iz (p0 + 2)))] rfl ?_
                exact ih46 (n + 0) (p0 + 2) (j + 1) (by omega) (by omega) (by omega) (by simp only [tws, twc]; rw [← hp]; first | (rw [if_neg (by omega)]; omega) | (rw [if_pos (by omega)]; omega))
              · skip
                refine hv_aload_n C 0 0 dX12_twice_75 rfl rfl ?_
                refine hv_iload_n C 1 1 dX12_twice_76 rfl rfl ?_
                refine hv_iload C 5 5 dX12_twice_77 rfl ?_
                refine hv_bipush C dX12_twice_79 (by decide) ?_
                refine hv_idiv C (by omega) (by omega) (by omega) (by omega) dX12_twice_81 ?_
                refine hv_iload C 5 5 dX12_twice_82 rfl ?_
                refine hv_bipush C dX12_twice_84 (by decide) ?_
                refine hv_irem C (by omega) (by omega) (by omega) (by omega) dX12_twice_86 ?_
                refine mo_call [.int (iz ((zn : Nat) : Int)), .int (iz (p0 / 48)), .int (iz (p0 % 48))] [.int (iz n)] C K (k_localOf l σ zn (p0 / 48) (p0 % 48) hσ (by omega) (by omega)) ck_localOf (by decide) rfl (Nat.le_of_ble_eq_true rfl) dX12_twice_87 ?_
                refine hv_nm (fun x1 ex1 => ?_)
                have rx1 : inI x1 := by rw [ex1]; exact (by have h9 := lo_rng (σ 1) zn (p0 / 48) (p0 % 48) (by omega) (by omega) (by omega); omega)
                refine hv_bipush C dX12_twice_90 (by decide) ?_
                refine hv_iload_n C 2 2 dX12_twice_92 rfl rfl ?_
                refine hv_imul C dX12_twice_93 ?_
                refine hv_iload_n C 3 3 dX12_twice_94 rfl rfl ?_
                refine hv_iadd C dX12_twice_95 ?_
                refine hv_icmp_ne C 103 dX12_twice_96 (by decide) (by omega) (by omega) (fun h96 => ?_) (fun h96 => ?_)
                · skip
                  refine hv_iconst C dX12_twice_103 ?_
                  refine hv_iadd C dX12_twice_104 ?_
                  refine hv_istore C 4 [(4, .int (iz (n + 0))), (0, .ref a0), (1, .int (iz ((zn : Nat) : Int))), (2, .int (iz day)), (3, .int (iz slot)), (5, .int (iz p0))] dX12_twice_105 (by decide) rfl ?_
                  refine hv_iinc C 5 5 [(5, .int (iz (p0 + 2))), (4, .int (iz (n + 0))), (0, .ref a0), (1, .int (iz ((zn : Nat) : Int))), (2, .int (iz day)), (3, .int (iz slot))] dX12_twice_107 rfl (by decide) rfl ?_
                  refine hv_goto C 46 dX12_twice_110 (by decide) ?_
                  refine hv_loc [2, 3, 4, 5, 1, 0] [(0, .ref a0), (1, .int (iz ((zn : Nat) : Int))), (2, .int (iz day)), (3, .int (iz slot)), (4, .int (iz (n + 0))), (5, .int (iz (p0 + 2)))] rfl ?_
                  exact ih46 (n + 0) (p0 + 2) (j + 1) (by omega) (by omega) (by omega) (by simp only [tws, twc]; rw [← hp]; first | (rw [if_neg (by omega)]; omega) | (rw [if_pos (by omega)]; omega))
                · skip
                  refine hv_iconst C dX12_twice_99 ?_
                  refine hv_goto C 104 dX12_twice_100 (by decide) ?_
                  refine hv_iadd C dX12_twice_104 ?_
                  refine hv_istore C 4 [(4, .int (iz (n + 1))), (0, .ref a0), (1, .int (iz ((zn : Nat) : Int))), (2, .int (iz day)), (3, .int (iz slot)), (5, .int (iz p0))] dX12_twice_105 (by decide) rfl ?_
                  refine hv_iinc C 5 5 [(5, .int (iz (p0 + 2))), (4, .int (iz (n + 1))), (0, .ref a0), (1, .int (iz ((zn : Nat) : Int))), (2, .int (iz day)), (3, .int (iz slot))] dX12_twice_107 rfl (by decide) rfl ?_
                  refine hv_goto C 46 dX12_twice_110 (by decide) ?_
                  refine hv_loc [2, 3, 4, 5, 1, 0] [(0, .ref a0), (1, .int (iz ((zn : Nat) : Int))), (2, .int (iz day)), (3, .int (iz slot)), (4, .int (iz (n + 1))), (5, .int (iz (p0 + 2)))] rfl ?_
                  exact ih46 (n + 1) (p0 + 2) (j + 1) (by omega) (by omega) (by omega) (by simp only [tws, twc]; rw [← hp]; first | (rw [if_neg (by omega)]; omega) | (rw [if_pos (by omega)]; omega))
        refine hv_loc [2, 3, 4, 5, 1, 0] [(0, .ref a0), (1, .int (iz ((zn : Nat) : Int))), (2, .int (iz day)), (3, .int (iz slot)), (4, .int (iz 0)), (5, .int (iz ((((48 * day) + slot) + (2 * ((zn : Nat) : Int))) - 2)))] rfl ?_
        exact L46 _ 0 ((((48 * day) + slot) + (2 * ((zn : Nat) : Int))) - 2) 0 (Nat.lt_succ_self _) (by omega) (by omega) rfl
      · skip
        refine hv_iconst C dX12_twice_27 ?_
        exact mo_iret (Qc := fun _ _ _ _ => True) C hr hlk (by first | exact if_n (by omega) rfl | (refine if_p (by omega) ?_; have hq : j = 2 := (by omega); subst hq; simp only [Int.toNat_natCast]; exact hn)) rfl dX12_twice_28
theorem dX12_memberOf_0 : decode cX12_memberOf 0 = .ok (.iconst (-1), 1) := by decide +kernel
theorem dX12_memberOf_1 : decode cX12_memberOf 1 = .ok (.istore_n 3, 1) := by decide +kernel
theorem dX12_memberOf_2 : decode cX12_memberOf 2 = .ok (.iconst (-1), 1) := by decide +kernel
theorem dX12_memberOf_3 : decode cX12_memberOf 3 = .ok (.istore 4, 2) := by decide +kernel
theorem dX12_memberOf_5 : decode cX12_memberOf 5 = .ok (.iconst 0, 1) := by decide +kernel
theorem dX12_memberOf_6 : decode cX12_memberOf 6 = .ok (.istore 5, 2) := by decide +kernel
theorem dX12_memberOf_8 : decode cX12_memberOf 8 = .ok (.iload 5, 2) := by decide +kernel
theorem dX12_memberOf_10 : decode cX12_memberOf 10 = .ok (.aload_n 0, 1) := by decide +kernel
theorem dX12_memberOf_11 : decode cX12_memberOf 11 = .ok (.getfield 7, 3) := by decide +kernel
theorem dX12_memberOf_14 : decode cX12_memberOf 14 = .ok (.iconst 3, 1) := by decide +kernel
theorem dX12_memberOf_15 : decode cX12_memberOf 15 = .ok (.iaload, 1) := by decide +kernel
theorem dX12_memberOf_16 : decode cX12_memberOf 16 = .ok (.if_icmp .ge 95, 3) := by decide +kernel
theorem dX12_memberOf_19 : decode cX12_memberOf 19 = .ok (.bipush 120, 2) := by decide +kernel
theorem dX12_memberOf_21 : decode cX12_memberOf 21 = .ok (.iconst 4, 1) := by decide +kernel
theorem dX12_memberOf_22 : decode cX12_memberOf 22 = .ok (.iload 5, 2) := by decide +kernel
theorem dX12_memberOf_24 : decode cX12_memberOf 24 = .ok (.imul, 1) := by decide +kernel
theorem dX12_memberOf_25 : decode cX12_memberOf 25 = .ok (.iadd, 1) := by decide +kernel
theorem dX12_memberOf_26 : decode cX12_memberOf 26 = .ok (.istore 6, 2) := by decide +kernel
theorem dX12_memberOf_28 : decode cX12_memberOf 28 = .ok (.aload_n 0, 1) := by decide +kernel
theorem dX12_memberOf_29 : decode cX12_memberOf 29 = .ok (.getfield 7, 3) := by decide +kernel
theorem dX12_memberOf_32 : decode cX12_memberOf 32 = .ok (.iload 6, 2) := by decide +kernel
theorem dX12_memberOf_34 : decode cX12_memberOf 34 = .ok (.iaload, 1) := by decide +kernel
theorem dX12_memberOf_35 : decode cX12_memberOf 35 = .ok (.iload_n 1, 1) := by decide +kernel
theorem dX12_memberOf_36 : decode cX12_memberOf 36 = .ok (.if_icmp .ne 69, 3) := by decide +kernel
theorem dX12_memberOf_39 : decode cX12_memberOf 39 = .ok (.aload_n 0, 1) := by decide +kernel
theorem dX12_memberOf_40 : decode cX12_memberOf 40 = .ok (.getfield 7, 3) := by decide +kernel
theorem dX12_memberOf_43 : decode cX12_memberOf 43 = .ok (.iload 6, 2) := by decide +kernel
theorem dX12_memberOf_45 : decode cX12_memberOf 45 = .ok (.iconst 2, 1) := by decide +kernel
theorem dX12_memberOf_46 : decode cX12_memberOf 46 = .ok (.iadd, 1) := by decide +kernel
theorem dX12_memberOf_47 : decode cX12_memberOf 47 = .ok (.iaload, 1) := by decide +kernel
theorem dX12_memberOf_48 : decode cX12_memberOf 48 = .ok (.iload_n 2, 1) := by decide +kernel
theorem dX12_memberOf_49 : decode cX12_memberOf 49 = .ok (.if_icmp .gt 56, 3) := by decide +kernel
theorem dX12_memberOf_52 : decode cX12_memberOf 52 = .ok (.aload_n 0, 1) := by decide +kernel
theorem dX12_memberOf_53 : decode cX12_memberOf 53 = .ok (.aload_n 0, 1) := by decide +kernel
theorem dX12_memberOf_54 : decode cX12_memberOf 54 = .ok (.getfield 7, 3) := by decide +kernel
theorem dX12_memberOf_57 : decode cX12_memberOf 57 = .ok (.iload 6, 2) := by decide +kernel
theorem dX12_memberOf_59 : decode cX12_memberOf 59 = .ok (.iconst 3, 1) := by decide +kernel
theorem dX12_memberOf_60 : decode cX12_memberOf 60 = .ok (.iadd, 1) := by decide +kernel
theorem dX12_memberOf_61 : decode cX12_memberOf 61 = .ok (.iaload, 1) := by decide +kernel
theorem dX12_memberOf_62 : decode cX12_memberOf 62 = .ok (.invokevirtual 71, 3) := by decide +kernel
theorem dX12_memberOf_65 : decode cX12_memberOf 65 = .ok (.ifCond .eq 40, 3) := by decide +kernel
theorem dX12_memberOf_68 : decode cX12_memberOf 68 = .ok (.aload_n 0, 1) := by decide +kernel
theorem dX12_memberOf_69 : decode cX12_memberOf 69 = .ok (.getfield 7, 3) := by decide +kernel
theorem dX12_memberOf_72 : decode cX12_memberOf 72 = .ok (.iload 6, 2) := by decide +kernel
theorem dX12_memberOf_74 : decode cX12_memberOf 74 = .ok (.iconst 2, 1) := by decide +kernel
theorem dX12_memberOf_75 : decode cX12_memberOf 75 = .ok (.iadd, 1) := by decide +kernel
theorem dX12_memberOf_76 : decode cX12_memberOf 76 = .ok (.iaload, 1) := by decide +kernel
theorem dX12_memberOf_77 : decode cX12_memberOf 77 = .ok (.iload_n 3, 1) := by decide +kernel
theorem dX12_memberOf_78 : decode cX12_memberOf 78 = .ok (.if_icmp .ge 6, 3) := by decide +kernel
theorem dX12_memberOf_81 : decode cX12_memberOf 81 = .ok (.goto 24, 3) := by decide +kernel
theorem dX12_memberOf_84 : decode cX12_memberOf 84 = .ok (.aload_n 0, 1) := by decide +kernel
theorem dX12_memberOf_85 : decode cX12_memberOf 85 = .ok (.getfield 7, 3) := by decide +kernel
theorem dX12_memberOf_88 : decode cX12_memberOf 88 = .ok (.iload 6, 2) := by decide +kernel
theorem dX12_memberOf_90 : decode cX12_memberOf 90 = .ok (.iconst 2, 1) := by decide +kernel
theorem dX12_memberOf_91 : decode cX12_memberOf 91 = .ok (.iadd, 1) := by decide +kernel
theorem dX12_memberOf_92 : decode cX12_memberOf 92 = .ok (.iaload, 1) := by decide +kernel
theorem dX12_memberOf_93 : decode cX12_memberOf 93 = .ok (.istore_n 3, 1) := by decide +kernel
theorem dX12_memberOf_94 : decode cX12_memberOf 94 = .ok (.aload_n 0, 1) := by decide +kernel
theorem dX12_memberOf_95 : decode cX12_memberOf 95 = .ok (.getfield 7, 3) := by decide +kernel
theorem dX12_memberOf_98 : decode cX12_memberOf 98 = .ok (.iload 6, 2) := by decide +kernel
theorem dX12_memberOf_100 : decode cX12_memberOf 100 = .ok (.iconst 1, 1) := by decide +kernel
theorem dX12_memberOf_101 : decode cX12_memberOf 101 = .ok (.iadd, 1) := by decide +kernel
theorem dX12_memberOf_102 : decode cX12_memberOf 102 = .ok (.iaload, 1) := by decide +kernel
theorem dX12_memberOf_103 : decode cX12_memberOf 103 = .ok (.istore 4, 2) := by decide +kernel
theorem dX12_memberOf_105 : decode cX12_memberOf 105 = .ok (.iinc 5 1, 3) := by decide +kernel
theorem dX12_memberOf_108 : decode cX12_memberOf 108 = .ok (.goto (-100), 3) := by decide +kernel
theorem dX12_memberOf_111 : decode cX12_memberOf 111 = .ok (.iload 4, 2) := by decide +kernel
theorem dX12_memberOf_113 : decode cX12_memberOf 113 = .ok (.ireturn, 1) := by decide +kernel
set_option maxRecDepth 100000 in
set_option maxHeartbeats 4000000 in
theorem k_memberOf (l : Launch) {D : va_G} {cI cZ : ClassId} {a0 : Nat} (σ : Nat → Nat → Int) (st : Int) (d : Int) (hσ : rg σ) (hc : cn (σ 1)) (r_st : inI st) (r_d : inI d) : moM l D cI cZ a0 yX12_memberOf cX12_memberOf 7 (some .int) 1 21 [.ref a0, .int (iz st), .int (iz d)] σ (some (.int (iz (member (σ 1) st d)))) (σ) := by
  refine mo_start (by decide) rfl (Nat.le_of_ble_eq_true rfl) ?_
  intro p e s m args below meth c C K hr hlk
  refine hv_iconst C dX12_memberOf_0 ?_
  refine hv_istore_n C 3 [(3, .int (iz (-1))), (0, .ref a0), (1, .int (iz st)), (2, .int (iz d))] dX12_memberOf_1 rfl (by decide) rfl ?_
  refine hv_iconst C dX12_memberOf_2 ?_
  refine hv_istore C 4 [(4, .int (iz (-1))), (3, .int (iz (-1))), (0, .ref a0), (1, .int (iz st)), (2, .int (iz d))] dX12_memberOf_3 (by decide) rfl ?_
  refine hv_iconst C dX12_memberOf_5 ?_
  refine hv_istore C 5 [(5, .int (iz 0)), (4, .int (iz (-1))), (3, .int (iz (-1))), (0, .ref a0), (1, .int (iz st)), (2, .int (iz d))] dX12_memberOf_6 (by decide) rfl ?_
  have L8 : ∀ (f : Nat) (i : Nat) (best : Int) (net : Int), (σ 1 3).toNat - i < f → (i : Int) ≤ σ 1 3 → best = (mb (σ 1) st d i).1 → net = (mb (σ 1) st d i).2 → inI best → hvV p l e { frames := 1, cells := 0, slots := 0, locals := 21 } s m args below meth c 7 (moR a0) 0 0 (MQ below (moQ D cI cZ a0 (some (.int (iz (member (σ 1) st d)))) (σ)) args s 0 0 (moR a0)) (moI D cI cZ a0 s.heap σ) 8 [(0, .ref a0), (1, .int (iz st)), (2, .int (iz d)), (3, .int (iz best)), (4, .int (iz net)), (5, .int (iz ((i : Nat) : Int)))] [] := by
    intro f
    induction f with
    | zero => intro _ _ _ hm; exact absurd hm (Nat.not_lt_zero _)
    | succ f ih8 =>
      intro i best net hm8 hi hb hn hr9
      refine hv_iload C 5 5 dX12_memberOf_8 rfl ?_
      refine hv_aload_n C 0 0 dX12_memberOf_10 rfl rfl ?_
      refine mo_geta C K 0 1 (by decide) rfl mo_hw fl_7 rfl dX12_memberOf_11 ?_
      refine hv_iconst C dX12_memberOf_14 ?_
      refine mo_iald C K 1 9040 3 rfl (by omega) (by omega) (by decide) dX12_memberOf_15 ?_
      refine hv_nm (fun x1 ex1 => ?_)
      have rx1 : inI x1 := by rw [ex1]; exact hσ 1 3
      refine hv_icmp_ge C 111 dX12_memberOf_16 (by decide) (by omega) (by omega) (fun h16 => ?_) (fun h16 => ?_)
      · skip
        refine hv_iload C 4 4 dX12_memberOf_111 rfl ?_
        exact mo_iret (Qc := fun _ _ _ _ => True) C hr hlk (by have hq : (σ 1 3).toNat = i := (by omega); unfold member; rw [hq]; exact hn) rfl dX12_memberOf_113
      · skip
        refine hv_bipush C dX12_memberOf_19 (by decide) ?_
        refine hv_iconst C dX12_memberOf_21 ?_
        refine hv_iload C 5 5 dX12_memberOf_22 rfl ?_
        refine hv_imul C dX12_memberOf_24 ?_
        refine hv_iadd C dX12_memberOf_25 ?_
        refine hv_istore C 6 [(6, .int (iz (120 + (4 * ((i : Nat) : Int))))), (0, .ref a0), (1, .int (iz st)), (2, .int (iz d)), (3, .int (iz best)), (4, .int (iz net)), (5, .int (iz ((i : Nat) : Int)))] dX12_memberOf_26 (by decide) rfl ?_
        refine hv_aload_n C 0 1 dX12_memberOf_28 rfl rfl ?_
        refine mo_geta C K 0 1 (by decide) rfl mo_hw fl_7 rfl dX12_memberOf_29 ?_
        refine hv_iload C 6 0 dX12_memberOf_32 rfl ?_
        refine mo_iald C K 1 9040 (120 + (4 * i)) rfl (by omega) (by omega) (by decide) dX12_memberOf_34 ?_
        refine hv_nm (fun x2 ex2 => ?_)
        have rx2 : inI x2 := by rw [ex2]; exact hσ 1 (120 + (4 * i))
        refine hv_iload_n C 1 2 dX12_memberOf_35 rfl rfl ?_
        refine hv_icmp_ne C 105 dX12_memberOf_36 (by decide) (by omega) (by omega) (fun h36 => ?_) (fun h36 => ?_)
        · skip
          refine hv_iinc C 5 6 [(5, .int (iz (((i : Nat) : Int) + 1))), (6, .int (iz (120 + (4 * ((i : Nat) : Int))))), (0, .ref a0), (1, .int (iz st)), (2, .int (iz d)), (3, .int (iz best)), (4, .int (iz net))] dX12_memberOf_105 rfl (by decide) rfl ?_
          refine hv_goto C 8 dX12_memberOf_108 (by decide) ?_
          refine hv_loc [2, 3, 4, 5, 6, 0] [(0, .ref a0), (1, .int (iz st)), (2, .int (iz d)), (3, .int (iz best)), (4, .int (iz net)), (5, .int (iz (((i : Nat) : Int) + 1)))] rfl ?_
          exact ih8 (i + 1) best net (by omega) (by omega) (by simp only [mb]; first | (rw [if_neg (by omega)]; exact hb) | (rw [if_pos (by omega)]; assumption)) (by simp only [mb]; first | (rw [if_neg (by omega)]; exact hn) | (rw [if_pos (by omega)]; assumption)) (by omega)
        · skip
          refine hv_aload_n C 0 1 dX12_memberOf_39 rfl rfl ?_
          refine mo_geta C K 0 1 (by decide) rfl mo_hw fl_7 rfl dX12_memberOf_40 ?_
          refine hv_iload C 6 0 dX12_memberOf_43 rfl ?_
          refine hv_iconst C dX12_memberOf_45 ?_
          refine hv_iadd C dX12_memberOf_46 ?_
          refine mo_iald C K 1 9040 ((120 + (4 * i)) + 2) rfl (by omega) (by omega) (by decide) dX12_memberOf_47 ?_
          refine hv_nm (fun x3 ex3 => ?_)
          have rx3 : inI x3 := by rw [ex3]; exact hσ 1 ((120 + (4 * i)) + 2)
          refine hv_iload_n C 2 3 dX12_memberOf_48 rfl rfl ?_
          refine hv_icmp_gt C 105 dX12_memberOf_49 (by decide) (by omega) (by omega) (fun h49 => ?_) (fun h49 => ?_)
          · skip
            refine hv_iinc C 5 6 [(5, .int (iz (((i : Nat) : Int) + 1))), (6, .int (iz (120 + (4 * ((i : Nat) : Int))))), (0, .ref a0), (1, .int (iz st)), (2, .int (iz d)), (3, .int (iz best)), (4, .int (iz net))] dX12_memberOf_105 rfl (by decide) rfl ?_
            refine hv_goto C 8 dX12_memberOf_108 (by decide) ?_
            refine hv_loc [2, 3, 4, 5, 6, 0] [(0, .ref a0), (1, .int (iz st)), (2, .int (iz d)), (3, .int (iz best)), (4, .int (iz net)), (5, .int (iz (((i : Nat) : Int) + 1)))] rfl ?_
            exact ih8 (i + 1) best net (by omega) (by omega) (by simp only [mb]; first | (rw [if_neg (by omega)]; exact hb) | (rw [if_pos (by omega)]; assumption)) (by simp only [mb]; first | (rw [if_neg (by omega)]; exact hn) | (rw [if_pos (by omega)]; assumption)) (by omega)
          · skip
            refine hv_aload_n C 0 1 dX12_memberOf_52 rfl rfl ?_
            refine hv_aload_n C 0 1 dX12_memberOf_53 rfl rfl ?_
            refine mo_geta C K 0 1 (by decide) rfl mo_hw fl_7 rfl dX12_memberOf_54 ?_
            refine hv_iload C 6 0 dX12_memberOf_57 rfl ?_
            refine hv_iconst C dX12_memberOf_59 ?_
            refine hv_iadd C dX12_memberOf_60 ?_
            refine mo_iald C K 1 9040 ((120 + (4 * i)) + 3) rfl (by omega) (by omega) (by decide) dX12_memberOf_61 ?_
            refine hv_nm (fun x4 ex4 => ?_)
            have rx4 : inI x4 := by rw [ex4]; exact hσ 1 ((120 + (4 * i)) + 3)
            refine mo_call [.int (iz x4)] [] C K (k_isSeen l σ x4 hσ (by omega)) ck_isSeen (by decide) rfl (Nat.le_of_ble_eq_true rfl) dX12_memberOf_62 ?_
            refine hv_dif_eq C 105 dX12_memberOf_65 (by decide)  (fun h65 => ?_) (fun h65 => ?_)
            · skip
              refine hv_iinc C 5 6 [(5, .int (iz (((i : Nat) : Int) + 1))), (6, .int (iz (120 + (4 * ((i : Nat) : Int))))), (0, .ref a0), (1, .int (iz st)), (2, .int (iz d)), (3, .int (iz best)), (4, .int (iz net))] dX12_memberOf_105 rfl (by decide) rfl ?_
              refine hv_goto C 8 dX12_memberOf_108 (by decide) ?_
              refine hv_loc [2, 3, 4, 5, 6, 0] [(0, .ref a0), (1, .int (iz st)), (2, .int (iz d)), (3, .int (iz best)), (4, .int (iz net)), (5, .int (iz (((i : Nat) : Int) + 1)))] rfl ?_
              exact ih8 (i + 1) best net (by omega) (by omega) (by simp only [mb]; first | (rw [if_neg (by omega)]; exact hb) | (rw [if_pos (by omega)]; assumption)) (by simp only [mb]; first | (rw [if_neg (by omega)]; exact hn) | (rw [if_pos (by omega)]; assumption)) (by omega)
            · skip
              refine hv_aload_n C 0 1 dX12_memberOf_68 rfl rfl ?_
              refine mo_geta C K 0 1 (by decide) rfl mo_hw fl_7 rfl dX12_memberOf_69 ?_
              refine hv_iload C 6 0 dX12_memberOf_72 rfl ?_
              refine hv_iconst C dX12_memberOf_74 ?_
              refine hv_iadd C dX12_memberOf_75 ?_
              refine mo_iald C K 1 9040 ((120 + (4 * i)) + 2) rfl (by omega) (by omega) (by decide) dX12_memberOf_76 ?_
              refine hv_nm (fun x5 ex5 => ?_)
              have rx5 : inI x5 := by rw [ex5]; exact hσ 1 ((120 + (4 * i)) + 2)
              refine hv_iload_n C 3 4 dX12_memberOf_77 rfl rfl ?_
              refine hv_icmp_ge C 84 dX12_memberOf_78 (by decide) (by omega) (by omega) (fun h78 => ?_) (fun h78 => ?_)
              · skip
                refine hv_aload_n C 0 1 dX12_memberOf_84 rfl rfl ?_
                refine mo_geta C K 0 1 (by decide) rfl mo_hw fl_7 rfl dX12_memberOf_85 ?_
                refine hv_iload C 6 0 dX12_memberOf_88 rfl ?_
                refine hv_iconst C dX12_memberOf_90 ?_
                refine hv_iadd C dX12_memberOf_91 ?_
                refine mo_iald C K 1 9040 ((120 + (4 * i)) + 2) rfl (by omega) (by omega) (by decide) dX12_memberOf_92 ?_
                refine hv_nm (fun x6 ex6 => ?_)
                have rx6 : inI x6 := by rw [ex6]; exact hσ 1 ((120 + (4 * i)) + 2)
                refine hv_istore_n C 3 [(3, .int (iz x6)), (6, .int (iz (120 + (4 * ((i : Nat) : Int))))), (0, .ref a0), (1, .int (iz st)), (2, .int (iz d)), (4, .int (iz net)), (5, .int (iz ((i : Nat) : Int)))] dX12_memberOf_93 rfl (by decide) rfl ?_
                refine hv_aload_n C 0 2 dX12_memberOf_94 rfl rfl ?_
                refine mo_geta C K 0 1 (by decide) rfl mo_hw fl_7 rfl dX12_memberOf_95 ?_
                refine hv_iload C 6 1 dX12_memberOf_98 rfl ?_
                refine hv_iconst C dX12_memberOf_100 ?_
                refine hv_iadd C dX12_memberOf_101 ?_
                refine mo_iald C K 1 9040 ((120 + (4 * i)) + 1) rfl (by omega) (by omega) (by decide) dX12_memberOf_102 ?_
                refine hv_nm (fun x7 ex7 => ?_)
                have rx7 : inI x7 := by rw [ex7]; exact hσ 1 ((120 + (4 * i)) + 1)
                refine hv_istore C 4 [(4, .int (iz x7)), (3, .int (iz x6)), (6, .int (iz (120 + (4 * ((i : Nat) : Int))))), (0, .ref a0), (1, .int (iz st)), (2, .int (iz d)), (5, .int (iz ((i : Nat) : Int)))] dX12_memberOf_103 (by decide) rfl ?_
                refine hv_iinc C 5 6 [(5, .int (iz (((i : Nat) : Int) + 1))), (4, .int (iz x7)), (3, .int (iz x6)), (6, .int (iz (120 + (4 * ((i : Nat) : Int))))), (0, .ref a0), (1, .int (iz st)), (2, .int (iz d))] dX12_memberOf_105 rfl (by decide) rfl ?_
                refine hv_goto C 8 dX12_memberOf_108 (by decide) ?_
                refine hv_loc [4, 5, 6, 2, 1, 0] [(0, .ref a0), (1, .int (iz st)), (2, .int (iz d)), (3, .int (iz x6)), (4, .int (iz x7)), (5, .int (iz (((i : Nat) : Int) + 1)))] rfl ?_
                exact ih8 (i + 1) x6 x7 (by omega) (by omega) (by simp only [mb]; first | (rw [if_neg (by omega)]; exact hb) | (rw [if_pos (by omega)]; assumption)) (by simp only [mb]; first | (rw [if_neg (by omega)]; exact hn) | (rw [if_pos (by omega)]; assumption)) (by omega)
              · skip
                refine hv_goto C 105 dX12_memberOf_81 (by decide) ?_
                refine hv_iinc C 5 6 [(5, .int (iz (((i : Nat) : Int) + 1))), (6, .int (iz (120 + (4 * ((i : Nat) : Int))))), (0, .ref a0), (1, .int (iz st)), (2, .int (iz d)), (3, .int (iz best)), (4, .int (iz net))] dX12_memberOf_105 rfl (by decide) rfl ?_
                refine hv_goto C 8 dX12_memberOf_108 (by decide) ?_
                refine hv_loc [2, 3, 4, 5, 6, 0] [(0, .ref a0), (1, .int (iz st)), (2, .int (iz d)), (3, .int (iz best)), (4, .int (iz net)), (5, .int (iz (((i : Nat) : Int) + 1)))] rfl ?_
                exact ih8 (i + 1) best net (by omega) (by omega) (by simp only [mb]; first | (rw [if_neg (by omega)]; exact hb) | (rw [if_pos (by omega)]; assumption)) (by simp only [mb]; first | (rw [if_neg (by omega)]; exact hn) | (rw [if_pos (by omega)]; assumption)) (by omega)
  refine hv_loc [3, 4, 5, 2, 1, 0] [(0, .ref a0), (1, .int (iz st)), (2, .int (iz d)), (3, .int (iz (-1))), (4, .int (iz (-1))), (5, .int (iz 0))] rfl ?_
  exact L8 _ 0 (-1) (-1) (Nat.lt_succ_self _) (by omega) rfl rfl (by decide)
theorem dX12_member_0 : decode cX12_member 0 = .ok (.aload_n 0, 1) := by decide +kernel
theorem dX12_member_1 : decode cX12_member 1 = .ok (.iload_n 1, 1) := by decide +kernel
theorem dX12_member_2 : decode cX12_member 2 = .ok (.iconst 2, 1) := by decide +kernel
theorem dX12_member_3 : decode cX12_member 3 = .ok (.invokevirtual 63, 3) := by decide +kernel
theorem dX12_member_6 : decode cX12_member 6 = .ok (.ifCond .eq 19, 3) := by decide +kernel
theorem dX12_member_9 : decode cX12_member 9 = .ok (.iload_n 2, 1) := by decide +kernel
theorem dX12_member_10 : decode cX12_member 10 = .ok (.invokestatic 75, 3) := by decide +kernel
theorem dX12_member_13 : decode cX12_member 13 = .ok (.ifCond .eq 12, 3) := by decide +kernel
theorem dX12_member_16 : decode cX12_member 16 = .ok (.aload_n 0, 1) := by decide +kernel
theorem dX12_member_17 : decode cX12_member 17 = .ok (.iload_n 1, 1) := by decide +kernel
theorem dX12_member_18 : decode cX12_member 18 = .ok (.iload_n 2, 1) := by decide +kernel
theorem dX12_member_19 : decode cX12_member 19 = .ok (.invokevirtual 88, 3) := by decide +kernel
theorem dX12_member_22 : decode cX12_member 22 = .ok (.goto 4, 3) := by decide +kernel
theorem dX12_member_25 : decode cX12_member 25 = .ok (.iconst (-1), 1) := by decide +kernel
theorem dX12_member_26 : decode cX12_member 26 = .ok (.ireturn, 1) := by decide +kernel
set_option maxRecDepth 100000 in
set_option maxHeartbeats 4000000 in
theorem k_member (l : Launch) {D : va_G} {cI cZ : ClassId} {a0 : Nat} (σ : Nat → Nat → Int) (st : Int) (d : Int) (hσ : rg σ) (hc : cn (σ 1)) (r_st : inI st) (r_d : inI d) : moM l D cI cZ a0 yX12_member cX12_member 3 (some .int) 2 47 [.ref a0, .int (iz st), .int (iz d)] σ (some (.int (iz (if (0 ≤ st ∧ st ≤ σ 1 2 - 1) ∧ (0 ≤ d ∧ d ≤ 199) then member (σ 1) st d else -1)))) (σ) := by
  refine mo_start (by decide) rfl (Nat.le_of_ble_eq_true rfl) ?_
  intro p e s m args below meth c C K hr hlk
  refine hv_aload_n C 0 0 dX12_member_0 rfl rfl ?_
  refine hv_iload_n C 1 1 dX12_member_1 rfl rfl ?_
  refine hv_iconst C dX12_member_2 ?_
  refine mo_call [.int (iz st), .int (iz 2)] [] C K (k_isOf l σ st 2 hσ (by omega) (by omega) (by omega)) ck_isOf (by decide) rfl (Nat.le_of_ble_eq_true rfl) dX12_member_3 ?_
  refine hv_dif_eq C 25 dX12_member_6 (by decide)  (fun h6 => ?_) (fun h6 => ?_)
  · skip
    refine hv_iconst C dX12_member_25 ?_
    exact mo_iret (Qc := fun _ _ _ _ => True) C hr hlk (by first | exact if_n (by omega) rfl | (refine if_p (by omega) ?_; assumption)) rfl dX12_member_26
  · skip
    refine hv_iload_n C 2 2 dX12_member_9 rfl rfl ?_
    refine mo_callS [.int (iz d)] [] C K (k_isDay l σ d (by omega)) ck_isDay (by decide) rfl (Nat.le_of_ble_eq_true rfl) dX12_member_10 ?_
    refine hv_dif_eq C 25 dX12_member_13 (by decide)  (fun h13 => ?_) (fun h13 => ?_)
    · skip
      refine hv_iconst C dX12_member_25 ?_
      exact mo_iret (Qc := fun _ _ _ _ => True) C hr hlk (by first | exact if_n (by omega) rfl | (refine if_p (by omega) ?_; assumption)) rfl dX12_member_26
    · skip
      refine hv_aload_n C 0 0 dX12_member_16 rfl rfl ?_
      refine hv_iload_n C 1 1 dX12_member_17 rfl rfl ?_
      refine hv_iload_n C 2 2 dX12_member_18 rfl rfl ?_
      refine mo_call [.int (iz st), .int (iz d)] [] C K (k_memberOf l σ st d hσ (by omega) (by omega) (by omega)) ck_memberOf (by decide) rfl (Nat.le_of_ble_eq_true rfl) dX12_member_19 ?_
      refine hv_nm (fun x1 ex1 => ?_)
      refine hv_goto C 26 dX12_member_22 (by decide) ?_
      exact mo_iret (Qc := fun _ _ _ _ => True) C hr hlk (by first | exact if_n (by omega) rfl | (refine if_p (by omega) ?_; assumption)) rfl dX12_member_26
theorem dX12_breakOf_0 : decode cX12_breakOf 0 = .ok (.iconst (-1), 1) := by decide +kernel
theorem dX12_breakOf_1 : decode cX12_breakOf 1 = .ok (.istore 4, 2) := by decide +kernel
theorem dX12_breakOf_3 : decode cX12_breakOf 3 = .ok (.iconst 0, 1) := by decide +kernel
theorem dX12_breakOf_4 : decode cX12_breakOf 4 = .ok (.istore 5, 2) := by decide +kernel
theorem dX12_breakOf_6 : decode cX12_breakOf 6 = .ok (.iload 5, 2) := by decide +kernel
theorem dX12_breakOf_8 : decode cX12_breakOf 8 = .ok (.aload_n 0, 1) := by decide +kernel
theorem dX12_breakOf_9 : decode cX12_breakOf 9 = .ok (.getfield 7, 3) := by decide +kernel
theorem dX12_breakOf_12 : decode cX12_breakOf 12 = .ok (.iconst 5, 1) := by decide +kernel
theorem dX12_breakOf_13 : decode cX12_breakOf 13 = .ok (.iaload, 1) := by decide +kernel
theorem dX12_breakOf_14 : decode cX12_breakOf 14 = .ok (.if_icmp .ge 136, 3) := by decide +kernel
theorem dX12_breakOf_17 : decode cX12_breakOf 17 = .ok (.sipush 480, 3) := by decide +kernel
theorem dX12_breakOf_20 : decode cX12_breakOf 20 = .ok (.bipush 6, 2) := by decide +kernel
theorem dX12_breakOf_22 : decode cX12_breakOf 22 = .ok (.iload 5, 2) := by decide +kernel
theorem dX12_breakOf_24 : decode cX12_breakOf 24 = .ok (.imul, 1) := by decide +kernel
theorem dX12_breakOf_25 : decode cX12_breakOf 25 = .ok (.iadd, 1) := by decide +kernel
theorem dX12_breakOf_26 : decode cX12_breakOf 26 = .ok (.istore 6, 2) := by decide +kernel
theorem dX12_breakOf_28 : decode cX12_breakOf 28 = .ok (.aload_n 0, 1) := by decide +kernel
theorem dX12_breakOf_29 : decode cX12_breakOf 29 = .ok (.aload_n 0, 1) := by decide +kernel
theorem dX12_breakOf_30 : decode cX12_breakOf 30 = .ok (.getfield 7, 3) := by decide +kernel
theorem dX12_breakOf_33 : decode cX12_breakOf 33 = .ok (.iload 6, 2) := by decide +kernel
theorem dX12_breakOf_35 : decode cX12_breakOf 35 = .ok (.iconst 5, 1) := by decide +kernel
theorem dX12_breakOf_36 : decode cX12_breakOf 36 = .ok (.iadd, 1) := by decide +kernel
theorem dX12_breakOf_37 : decode cX12_breakOf 37 = .ok (.iaload, 1) := by decide +kernel
theorem dX12_breakOf_38 : decode cX12_breakOf 38 = .ok (.invokevirtual 71, 3) := by decide +kernel
theorem dX12_breakOf_41 : decode cX12_breakOf 41 = .ok (.ifCond .eq 103, 3) := by decide +kernel
theorem dX12_breakOf_44 : decode cX12_breakOf 44 = .ok (.aload_n 0, 1) := by decide +kernel
theorem dX12_breakOf_45 : decode cX12_breakOf 45 = .ok (.getfield 7, 3) := by decide +kernel
theorem dX12_breakOf_48 : decode cX12_breakOf 48 = .ok (.iload 6, 2) := by decide +kernel
theorem dX12_breakOf_50 : decode cX12_breakOf 50 = .ok (.iaload, 1) := by decide +kernel
theorem dX12_breakOf_51 : decode cX12_breakOf 51 = .ok (.iconst (-1), 1) := by decide +kernel
theorem dX12_breakOf_52 : decode cX12_breakOf 52 = .ok (.if_icmp .eq 14, 3) := by decide +kernel
theorem dX12_breakOf_55 : decode cX12_breakOf 55 = .ok (.aload_n 0, 1) := by decide +kernel
theorem dX12_breakOf_56 : decode cX12_breakOf 56 = .ok (.getfield 7, 3) := by decide +kernel
theorem dX12_breakOf_59 : decode cX12_breakOf 59 = .ok (.iload 6, 2) := by decide +kernel
theorem dX12_breakOf_61 : decode cX12_breakOf 61 = .ok (.iaload, 1) := by decide +kernel
theorem dX12_breakOf_62 : decode cX12_breakOf 62 = .ok (.iload_n 1, 1) := by decide +kernel
theorem dX12_breakOf_63 : decode cX12_breakOf 63 = .ok (.if_icmp .ne 81, 3) := by decide +kernel
theorem dX12_breakOf_66 : decode cX12_breakOf 66 = .ok (.aload_n 0, 1) := by decide +kernel
theorem dX12_breakOf_67 : decode cX12_breakOf 67 = .ok (.getfield 7, 3) := by decide +kernel
theorem dX12_breakOf_70 : decode cX12_breakOf 70 = .ok (.iload 6, 2) := by decide +kernel
theorem dX12_breakOf_72 : decode cX12_breakOf 72 = .ok (.iconst 1, 1) := by decide +kernel
theorem dX12_breakOf_73 : decode cX12_breakOf 73 = .ok (.iadd, 1) := by decide +kernel
theorem dX12_breakOf_74 : decode cX12_breakOf 74 = .ok (.iaload, 1) := by decide +kernel
theorem dX12_breakOf_75 : decode cX12_breakOf 75 = .ok (.iload_n 2, 1) := by decide +kernel
theorem dX12_breakOf_76 : decode cX12_breakOf 76 = .ok (.if_icmp .ne 68, 3) := by decide +kernel
theorem dX12_breakOf_79 : decode cX12_breakOf 79 = .ok (.iload_n 3, 1) := by decide +kernel
theorem dX12_breakOf_80 : decode cX12_breakOf 80 = .ok (.aload_n 0, 1) := by decide +kernel
theorem dX12_breakOf_81 : decode cX12_breakOf 81 = .ok (.getfield 7, 3) := by decide +kernel
theorem dX12_breakOf_84 : decode cX12_breakOf 84 = .ok (.iload 6, 2) := by decide +kernel
theorem dX12_breakOf_86 : decode cX12_breakOf 86 = .ok (.iconst 2, 1) := by decide +kernel
theorem dX12_breakOf_87 : decode cX12_breakOf 87 = .ok (.iadd, 1) := by decide +kernel
theorem dX12_breakOf_88 : decode cX12_breakOf 88 = .ok (.iaload, 1) := by decide +kernel
theorem dX12_breakOf_89 : decode cX12_breakOf 89 = .ok (.aload_n 0, 1) := by decide +kernel
theorem dX12_breakOf_90 : decode cX12_breakOf 90 = .ok (.getfield 7, 3) := by decide +kernel
theorem dX12_breakOf_93 : decode cX12_breakOf 93 = .ok (.iload 6, 2) := by decide +kernel
theorem dX12_breakOf_95 : decode cX12_breakOf 95 = .ok (.iconst 3, 1) := by decide +kernel
theorem dX12_breakOf_96 : decode cX12_breakOf 96 = .ok (.iadd, 1) := by decide +kernel
theorem dX12_breakOf_97 : decode cX12_breakOf 97 = .ok (.iaload, 1) := by decide +kernel
theorem dX12_breakOf_98 : decode cX12_breakOf 98 = .ok (.invokestatic 59, 3) := by decide +kernel
theorem dX12_breakOf_101 : decode cX12_breakOf 101 = .ok (.ifCond .ne 6, 3) := by decide +kernel
theorem dX12_breakOf_104 : decode cX12_breakOf 104 = .ok (.goto 40, 3) := by decide +kernel
theorem dX12_breakOf_107 : decode cX12_breakOf 107 = .ok (.iload 4, 2) := by decide +kernel
theorem dX12_breakOf_109 : decode cX12_breakOf 109 = .ok (.ifCond .lt 31, 3) := by decide +kernel
theorem dX12_breakOf_112 : decode cX12_breakOf 112 = .ok (.aload_n 0, 1) := by decide +kernel
theorem dX12_breakOf_113 : decode cX12_breakOf 113 = .ok (.getfield 7, 3) := by decide +kernel
theorem dX12_breakOf_116 : decode cX12_breakOf 116 = .ok (.iload 6, 2) := by decide +kernel
theorem dX12_breakOf_118 : decode cX12_breakOf 118 = .ok (.iconst 4, 1) := by decide +kernel
theorem dX12_breakOf_119 : decode cX12_breakOf 119 = .ok (.iadd, 1) := by decide +kernel
theorem dX12_breakOf_120 : decode cX12_breakOf 120 = .ok (.iaload, 1) := by decide +kernel
theorem dX12_breakOf_121 : decode cX12_breakOf 121 = .ok (.aload_n 0, 1) := by decide +kernel
theorem dX12_breakOf_122 : decode cX12_breakOf 122 = .ok (.getfield 7, 3) := by decide +kernel
theorem dX12_breakOf_125 : decode cX12_breakOf 125 = .ok (.sipush 480, 3) := by decide +kernel
theorem dX12_breakOf_128 : decode cX12_breakOf 128 = .ok (.bipush 6, 2) := by decide +kernel
theorem dX12_breakOf_130 : decode cX12_breakOf 130 = .ok (.iload 4, 2) := by decide +kernel
theorem dX12_breakOf_132 : decode cX12_breakOf 132 = .ok (.imul, 1) := by decide +kernel
theorem dX12_breakOf_133 : decode cX12_breakOf 133 = .ok (.iadd, 1) := by decide +kernel
theorem dX12_breakOf_134 : decode cX12_breakOf 134 = .ok (.iconst 4, 1) := by decide +kernel
theorem dX12_breakOf_135 : decode cX12_breakOf 135 = .ok (.iadd, 1) := by decide +kernel
theorem dX12_breakOf_136 : decode cX12_breakOf 136 = .ok (.iaload, 1) := by decide +kernel
theorem dX12_breakOf_137 : decode cX12_breakOf 137 = .ok (.if_icmp .lt 7, 3) := by decide +kernel
theorem dX12_breakOf_140 : decode cX12_breakOf 140 = .ok (.iload 5, 2) := by decide +kernel
theorem dX12_breakOf_142 : decode cX12_breakOf 142 = .ok (.istore 4, 2) := by decide +kernel
theorem dX12_breakOf_144 : decode cX12_breakOf 144 = .ok (.iinc 5 1, 3) := by decide +kernel
theorem dX12_breakOf_147 : decode cX12_breakOf 147 = .ok (.goto (-141), 3) := by decide +kernel
theorem dX12_breakOf_150 : decode cX12_breakOf 150 = .ok (.iload 4, 2) := by decide +kernel
theorem dX12_breakOf_152 : decode cX12_breakOf 152 = .ok (.ireturn, 1) := by decide +kernel
set_option maxRecDepth 100000 in
set_option maxHeartbeats 4000000 in
theorem k_breakOf (l : Launch) {D : va_G} {cI cZ : ClassId} {a0 : Nat} (σ : Nat → Nat → Int) (st : Int) (d : Int) (t : Int) (hσ : rg σ) (hc : cn (σ 1)) (r_st : inI st) (r_d : inI d) (r_t : inI t) : moM l D cI cZ a0 yX12_breakOf cX12_breakOf 7 (some .int) 1 22 [.ref a0, .int (iz st), .int (iz d), .int (iz t)] σ (some (.int (iz (bk (σ 1) st d t (σ 1 5).toNat)))) (σ) := by
  refine mo_start (by decide) rfl (Nat.le_of_ble_eq_true rfl) ?_
  intro p e s m args below meth c C K hr hlk
  refine hv_iconst C dX12_breakOf_0 ?_
  refine hv_istore C 4 [(4, .int (iz (-1))), (0, .ref a0), (1, .int (iz st)), (2, .int (iz d)), (3, .int (iz t))] dX12_breakOf_1 (by decide) rfl ?_
  refine hv_iconst C dX12_breakOf_3 ?_
  refine hv_istore C 5 [(5, .int (iz 0)), (4, .int (iz (-1))), (0, .ref a0), (1, .int (iz st)), (2, .int (iz d)), (3, .int (iz t))] dX12_breakOf_4 (by decide) rfl ?_
  have L6 : ∀ (f : Nat) (i : Nat) (best : Int), (σ 1 5).toNat - i < f → (i : Int) ≤ σ 1 5 → best = bk (σ 1) st d t i → -1 ≤ best ∧ best < (i : Int) → hvV p l e { frames := 1, cells := 0, slots := 0, locals := 22 } s m args below meth c 7 (moR a0) 0 0 (MQ below (moQ D cI cZ a0 (some (.int (iz (bk (σ 1) st d t (σ 1 5).toNat)))) (σ)) args s 0 0 (moR a0)) (moI D cI cZ a0 s.heap σ) 6 [(0, .ref a0), (1, .int (iz st)), (2, .int (iz d)), (3, .int (iz t)), (4, .int (iz best)), (5, .int (iz ((i : Nat) : Int)))] [] := by
    intro f
    induction f with
    | zero => intro _ _ hm; exact absurd hm (Nat.not_lt_zero _)
    | succ f ih6 =>
      intro i best hm6 hi hb hr9
      refine hv_iload C 5 5 dX12_breakOf_6 rfl ?_
      refine hv_aload_n C 0 0 dX12_breakOf_8 rfl rfl ?_
      refine mo_geta C K 0 1 (by decide) rfl mo_hw fl_7 rfl dX12_breakOf_9 ?_
      refine hv_iconst C dX12_breakOf_12 ?_
      refine mo_iald C K 1 9040 5 rfl (by omega) (by omega) (by decide) dX12_breakOf_13 ?_
      refine hv_nm (fun x1 ex1 => ?_)
      have rx1 : inI x1 := by rw [ex1]; exact hσ 1 5
      refine hv_icmp_ge C 150 dX12_breakOf_14 (by decide) (by omega) (by omega) (fun h14 => ?_) (fun h14 => ?_)
      · skip
        refine hv_iload C 4 4 dX12_breakOf_150 rfl ?_
        exact mo_iret (Qc := fun _ _ _ _ => True) C hr hlk (by have hq : (σ 1 5).toNat = i := (by omega); rw [hq]; exact hb) rfl dX12_breakOf_152
      · skip
        refine hv_sipush C dX12_breakOf_17 (by decide) ?_
        refine hv_bipush C dX12_breakOf_20 (by decide) ?_
        refine hv_iload C 5 5 dX12_breakOf_22 rfl ?_
        refine hv_imul C dX12_breakOf_24 ?_
        refine hv_iadd C dX12_breakOf_25 ?_
        refine hv_istore C 6 [(6, .int (iz (480 + (6 * ((i : Nat) : Int))))), (0, .ref a0), (1, .int (iz st)), (2, .int (iz d)), (3, .int (iz t)), (4, .int (iz best)), (5, .int (iz ((i : Nat) : Int)))] dX12_breakOf_26 (by decide) rfl ?_
        refine hv_aload_n C 0 1 dX12_breakOf_28 rfl rfl ?_
        refine hv_aload_n C 0 1 dX12_breakOf_29 rfl rfl ?_
        refine mo_geta C K 0 1 (by decide) rfl mo_hw fl_7 rfl dX12_breakOf_30 ?_
        refine hv_iload C 6 0 dX12_breakOf_33 rfl ?_
        refine hv_iconst C dX12_breakOf_35 ?_
        refine hv_iadd C dX12_breakOf_36 ?_
        refine mo_iald C K 1 9040 ((480 + (6 * i)) + 5) rfl (by omega) (by omega) (by decide) dX12_breakOf_37 ?_
        refine hv_nm (fun x2 ex2 => ?_)
        have rx2 : inI x2 := by rw [ex2]; exact hσ 1 ((480 + (6 * i)) + 5)
        refine mo_call [.int (iz x2)] [] C K (k_isSeen l σ x2 hσ (by omega)) ck_isSeen (by decide) rfl (Nat.le_of_ble_eq_true rfl) dX12_breakOf_38 ?_
        refine hv_dif_eq C 144 dX12_breakOf_41 (by decide)  (fun h41 => ?_) (fun h41 => ?_)
        · skip
          refine hv_iinc C 5 6 [(5, .int (iz (((i : Nat) : Int) + 1))), (6, .int (iz (480 + (6 * ((i : Nat) : Int))))), (0, .ref a0), (1, .int (iz st)), (2, .int (iz d)), (3, .int (iz t)), (4, .int (iz best))] dX12_breakOf_144 rfl (by decide) rfl ?_
          refine hv_goto C 6 dX12_breakOf_147 (by decide) ?_
          refine hv_loc [2, 3, 4, 5, 6, 0] [(0, .ref a0), (1, .int (iz st)), (2, .int (iz d)), (3, .int (iz t)), (4, .int (iz best)), (5, .int (iz (((i : Nat) : Int) + 1)))] rfl ?_
          exact ih6 (i + 1) best (by omega) (by omega) (by simp only [bk]; first | (rw [if_neg (by omega)]; exact hb) | (simp only [hq9]; rw [if_neg (by omega)]; exact hb) | (rw [if_pos (by omega)]) | (simp only [hq9]; rw [if_pos (by omega)])) (by omega)
        · skip
          refine hv_aload_n C 0 1 dX12_breakOf_44 rfl rfl ?_
          refine mo_geta C K 0 1 (by decide) rfl mo_hw fl_7 rfl dX12_breakOf_45 ?_
          refine hv_iload C 6 0 dX12_breakOf_48 rfl ?_
          refine mo_iald C K 1 9040 (480 + (6 * i)) rfl (by omega) (by omega) (by decide) dX12_breakOf_50 ?_
          refine hv_nm (fun x3 ex3 => ?_)
          have rx3 : inI x3 := by rw [ex3]; exact hσ 1 (480 + (6 * i))
          refine hv_iconst C dX12_breakOf_51 ?_
          refine hv_icmp_eq C 66 dX12_breakOf_52 (by decide) (by omega) (by omega) (fun h52 => ?_) (fun h52 => ?_)
          · skip
            refine hv_aload_n C 0 1 dX12_breakOf_66 rfl rfl ?_
            refine mo_geta C K 0 1 (by decide) rfl mo_hw fl_7 rfl dX12_breakOf_67 ?_
            refine hv_iload C 6 0 dX12_breakOf_70 rfl ?_
            refine hv_iconst C dX12_breakOf_72 ?_
            refine hv_iadd C dX12_breakOf_73 ?_
            refine mo_iald C K 1 9040 ((480 + (6 * i)) + 1) rfl (by omega) (by omega) (by decide) dX12_breakOf_74 ?_
            refine hv_nm (fun x4 ex4 => ?_)
            have rx4 : inI x4 := by rw [ex4]; exact hσ 1 ((480 + (6 * i)) + 1)
            refine hv_iload_n C 2 3 dX12_breakOf_75 rfl rfl ?_
            refine hv_icmp_ne C 144 dX12_breakOf_76 (by decide) (by omega) (by omega) (fun h76 => ?_) (fun h76 => ?_)
            · skip
              refine hv_iinc C 5 6 [(5, .int (iz (((i : Nat) : Int) + 1))), (6, .int (iz (480 + (6 * ((i : Nat) : Int))))), (0, .ref a0), (1, .int (iz st)), (2, .int (iz d)), (3, .int (iz t)), (4, .int (iz best))] dX12_breakOf_144 rfl (by decide) rfl ?_
              refine hv_goto C 6 dX12_breakOf_147 (by decide) ?_
              refine hv_loc [2, 3, 4, 5, 6, 0] [(0, .ref a0), (1, .int (iz st)), (2, .int (iz d)), (3, .int (iz t)), (4, .int (iz best)), (5, .int (iz (((i : Nat) : Int) + 1)))] rfl ?_
              exact ih6 (i + 1) best (by omega) (by omega) (by simp only [bk]; first | (rw [if_neg (by omega)]; exact hb) | (simp only [hq9]; rw [if_neg (by omega)]; exact hb) | (rw [if_pos (by omega)]) | (simp only [hq9]; rw [if_pos (by omega)])) (by omega)
            · skip
              refine hv_iload_n C 3 4 dX12_breakOf_79 rfl rfl ?_
              refine hv_aload_n C 0 1 dX12_breakOf_80 rfl rfl ?_
              refine mo_geta C K 0 1 (by decide) rfl mo_hw fl_7 rfl dX12_breakOf_81 ?_
              refine hv_iload C 6 0 dX12_breakOf_84 rfl ?_
              refine hv_iconst C dX12_breakOf_86 ?_
              refine hv_iadd C dX12_breakOf_87 ?_
              refine mo_iald C K 1 9040 ((480 + (6 * i)) + 2) rfl (by omega) (by omega) (by decide) dX12_breakOf_88 ?_
              refine hv_nm (fun x5 ex5 => ?_)
              have rx5 : inI x5 := by rw [ex5]; exact hσ 1 ((480 + (6 * i)) + 2)
              refine hv_aload_n C 0 1 dX12_breakOf_89 rfl rfl ?_
              refine mo_geta C K 0 1 (by decide) rfl mo_hw fl_7 rfl dX12_breakOf_90 ?_
              refine hv_iload C 6 0 dX12_breakOf_93 rfl ?_
              refine hv_iconst C dX12_breakOf_95 ?_
              refine hv_iadd C dX12_breakOf_96 ?_
              refine mo_iald C K 1 9040 ((480 + (6 * i)) + 3) rfl (by omega) (by omega) (by decide) dX12_breakOf_97 ?_
              refine hv_nm (fun x6 ex6 => ?_)
              have rx6 : inI x6 := by rw [ex6]; exact hσ 1 ((480 + (6 * i)) + 3)
              refine mo_callS [.int (iz t), .int (iz x5), .int (iz x6)] [] C K (k_isIn l σ t x5 x6 (by omega) (by omega) (by omega)) ck_isIn (by decide) rfl (Nat.le_of_ble_eq_true rfl) dX12_breakOf_98 ?_
              refine hv_dif_ne C 107 dX12_breakOf_101 (by decide)  (fun h101 => ?_) (fun h101 => ?_)
              · skip
                refine hv_iload C 4 5 dX12_breakOf_107 rfl ?_
                refine hv_if_lt C 140 dX12_breakOf_109 (by decide) (by omega) (fun h109 => ?_) (fun h109 => ?_)
                · skip
                  refine hv_iload C 5 6 dX12_breakOf_140 rfl ?_
                  refine hv_istore C 4 [(4, .int (iz ((i : Nat) : Int))), (6, .int (iz (480 + (6 * ((i : Nat) : Int))))), (0, .ref a0), (1, .int (iz st)), (2, .int (iz d)), (3, .int (iz t)), (5, .int (iz ((i : Nat) : Int)))] dX12_breakOf_142 (by decide) rfl ?_
                  refine hv_iinc C 5 6 [(5, .int (iz (((i : Nat) : Int) + 1))), (4, .int (iz ((i : Nat) : Int))), (6, .int (iz (480 + (6 * ((i : Nat) : Int))))), (0, .ref a0), (1, .int (iz st)), (2, .int (iz d)), (3, .int (iz t))] dX12_breakOf_144 rfl (by decide) rfl ?_
                  refine hv_goto C 6 dX12_breakOf_147 (by decide) ?_
                  refine hv_loc [3, 4, 5, 6, 1, 0] [(0, .ref a0), (1, .int (iz st)), (2, .int (iz d)), (3, .int (iz t)), (4, .int (iz ((i : Nat) : Int))), (5, .int (iz (((i : Nat) : Int) + 1)))] rfl ?_
                  exact ih6 (i + 1) ((i : Nat) : Int) (by omega) (by omega) (by simp only [bk]; first | (rw [if_neg (by omega)]; exact hb) | (simp only [hq9]; rw [if_neg (by omega)]; exact hb) | (rw [if_pos (by omega)]) | (simp only [hq9]; rw [if_pos (by omega)])) (by omega)
                · skip
                  obtain ⟨bn, rfl⟩ : ∃ n : Nat, best = (n : Int) := ⟨(best).toNat, by omega⟩
                  have hq9 : (bk (σ 1) st d t i).toNat = bn := by omega
                  refine hv_aload_n C 0 1 dX12_breakOf_112 rfl rfl ?_
                  refine mo_geta C K 0 1 (by decide) rfl mo_hw fl_7 rfl dX12_breakOf_113 ?_
                  refine hv_iload C 6 0 dX12_breakOf_116 rfl ?_
                  refine hv_iconst C dX12_breakOf_118 ?_
                  refine hv_iadd C dX12_breakOf_119 ?_
                  refine mo_iald C K 1 9040 ((480 + (6 * i)) + 4) rfl (by omega) (by omega) (by decide) dX12_breakOf_120 ?_
                  refine hv_nm (fun x7 ex7 => ?_)
                  have rx7 : inI x7 := by rw [ex7]; exact hσ 1 ((480 + (6 * i)) + 4)
                  refine hv_aload_n C 0 1 dX12_breakOf_121 rfl rfl ?_
                  refine mo_geta C K 0 1 (by decide) rfl mo_hw fl_7 rfl dX12_breakOf_122 ?_
                  refine hv_sipush C dX12_breakOf_125 (by decide) ?_
                  refine hv_bipush C dX12_breakOf_128 (by decide) ?_
                  refine hv_iload C 4 5 dX12_breakOf_130 rfl ?_
                  refine hv_imul C dX12_breakOf_132 ?_
                  refine hv_iadd C dX12_breakOf_133 ?_
                  refine hv_iconst C dX12_breakOf_134 ?_
                  refine hv_iadd C dX12_breakOf_135 ?_
                  refine mo_iald C K 1 9040 ((480 + (6 * bn)) + 4) rfl (by omega) (by omega) (by decide) dX12_breakOf_136 ?_
                  refine hv_nm (fun x8 ex8 => ?_)
                  have rx8 : inI x8 := by rw [ex8]; exact hσ 1 ((480 + (6 * bn)) + 4)
                  refine hv_icmp_lt C 144 dX12_breakOf_137 (by decide) (by omega) (by omega) (fun h137 => ?_) (fun h137 => ?_)
                  · skip
                    refine hv_iinc C 5 6 [(5, .int (iz (((i : Nat) : Int) + 1))), (6, .int (iz (480 + (6 * ((i : Nat) : Int))))), (0, .ref a0), (1, .int (iz st)), (2, .int (iz d)), (3, .int (iz t)), (4, .int (iz ((bn : Nat) : Int)))] dX12_breakOf_144 rfl (by decide) rfl ?_
                    refine hv_goto C 6 dX12_breakOf_147 (by decide) ?_
                    refine hv_loc [2, 3, 4, 5, 6, 0] [(0, .ref a0), (1, .int (iz st)), (2, .int (iz d)), (3, .int (iz t)), (4, .int (iz ((bn : Nat) : Int))), (5, .int (iz (((i : Nat) : Int) + 1)))] rfl ?_
                    exact ih6 (i + 1) ((bn : Nat) : Int) (by omega) (by omega) (by simp only [bk]; first | (rw [if_neg (by omega)]; exact hb) | (simp only [hq9]; rw [if_neg (by omega)]; exact hb) | (rw [if_pos (by omega)]) | (simp only [hq9]; rw [if_pos (by omega)])) (by omega)
                  · skip
                    refine hv_iload C 5 6 dX12_breakOf_140 rfl ?_
                    refine hv_istore C 4 [(4, .int (iz ((i : Nat) : Int))), (6, .int (iz (480 + (6 * ((i : Nat) : Int))))), (0, .ref a0), (1, .int (iz st)), (2, .int (iz d)), (3, .int (iz t)), (5, .int (iz ((i : Nat) : Int)))] dX12_breakOf_142 (by decide) rfl ?_
                    refine hv_iinc C 5 6 [(5, .int (iz (((i : Nat) : Int) + 1))), (4, .int (iz ((i : Nat) : Int))), (6, .int (iz (480 + (6 * ((i : Nat) : Int))))), (0, .ref a0), (1, .int (iz st)), (2, .int (iz d)), (3, .int (iz t))] dX12_breakOf_144 rfl (by decide) rfl ?_
                    refine hv_goto C 6 dX12_breakOf_147 (by decide) ?_
                    refine hv_loc [3, 4, 5, 6, 1, 0] [(0, .ref a0), (1, .int (iz st)), (2, .int (iz d)), (3, .int (iz t)), (4, .int (iz ((i : Nat) : Int))), (5, .int (iz (((i : Nat) : Int) + 1)))] rfl ?_
                    exact ih6 (i + 1) ((i : Nat) : Int) (by omega) (by omega) (by simp only [bk]; first | (rw [if_neg (by omega)]; exact hb) | (simp only [hq9]; rw [if_neg (by omega)]; exact hb) | (rw [if_pos (by omega)]) | (simp only [hq9]; rw [if_pos (by omega)])) (by omega)
              · skip
                refine hv_goto C 144 dX12_breakOf_104 (by decide) ?_
                refine hv_iinc C 5 6 [(5, .int (iz (((i : Nat) : Int) + 1))), (6, .int (iz (480 + (6 * ((i : Nat) : Int))))), (0, .ref a0), (1, .int (iz st)), (2, .int (iz d)), (3, .int (iz t)), (4, .int (iz best))] dX12_breakOf_144 rfl (by decide) rfl ?_
                refine hv_goto C 6 dX12_breakOf_147 (by decide) ?_
                refine hv_loc [2, 3, 4, 5, 6, 0] [(0, .ref a0), (1, .int (iz st)), (2, .int (iz d)), (3, .int (iz t)), (4, .int (iz best)), (5, .int (iz (((i : Nat) : Int) + 1)))] rfl ?_
                exact ih6 (i + 1) best (by omega) (by omega) (by simp only [bk]; first | (rw [if_neg (by omega)]; exact hb) | (simp only [hq9]; rw [if_neg (by omega)]; exact hb) | (rw [if_pos (by omega)]) | (simp only [hq9]; rw [if_pos (by omega)])) (by omega)
          · skip
            refine hv_aload_n C 0 1 dX12_breakOf_55 rfl rfl ?_
            refine mo_geta C K 0 1 (by decide) rfl mo_hw fl_7 rfl dX12_breakOf_56 ?_
            refine hv_iload C 6 0 dX12_breakOf_59 rfl ?_
            refine mo_iald C K 1 9040 (480 + (6 * i)) rfl (by omega) (by omega) (by decide) dX12_breakOf_61 ?_
            refine hv_nm (fun x9 ex9 => ?_)
            have rx9 : inI x9 := by rw [ex9]; exact hσ 1 (480 + (6 * i))
            refine hv_iload_n C 1 2 dX12_breakOf_62 rfl rfl ?_
            refine hv_icmp_ne C 144 dX12_breakOf_63 (by decide) (by omega) (by omega) (fun h63 => ?_) (fun h63 => ?_)
            · skip
              refine hv_iinc C 5 6 [(5, .int (iz (((i : Nat) : Int) + 1))), (6, .int (iz (480 + (6 * ((i : Nat) : Int))))), (0, .ref a0), (1, .int (iz st)), (2, .int (iz d)), (3, .int (iz t)), (4, .int (iz best))] dX12_breakOf_144 rfl (by decide) rfl ?_
              refine hv_goto C 6 dX12_breakOf_147 (by decide) ?_
              refine hv_loc [2, 3, 4, 5, 6, 0] [(0, .ref a0), (1, .int (iz st)), (2, .int (iz d)), (3, .int (iz t)), (4, .int (iz best)), (5, .int (iz (((i : Nat) : Int) + 1)))] rfl ?_
              exact ih6 (i + 1) best (by omega) (by omega) (by simp only [bk]; first | (rw [if_neg (by omega)]; exact hb) | (simp only [hq9]; rw [if_neg (by omega)]; exact hb) | (rw [if_pos (by omega)]) | (simp only [hq9]; rw [if_pos (by omega)])) (by omega)
            · skip
              refine hv_aload_n C 0 1 dX12_breakOf_66 rfl rfl ?_
              refine mo_geta C K 0 1 (by decide) rfl mo_hw fl_7 rfl dX12_breakOf_67 ?_
              refine hv_iload C 6 0 dX12_breakOf_70 rfl ?_
              refine hv_iconst C dX12_breakOf_72 ?_
              refine hv_iadd C dX12_breakOf_73 ?_
              refine mo_iald C K 1 9040 ((480 + (6 * i)) + 1) rfl (by omega) (by omega) (by decide) dX12_breakOf_74 ?_
              refine hv_nm (fun x10 ex10 => ?_)
              have rx10 : inI x10 := by rw [ex10]; exact hσ 1 ((480 + (6 * i)) + 1)
              refine hv_iload_n C 2 3 dX12_breakOf_75 rfl rfl ?_
              refine hv_icmp_ne C 144 dX12_breakOf_76 (by decide) (by omega) (by omega) (fun h76 => ?_) (fun h76 => ?_)
              · skip
                refine hv_iinc C 5 6 [(5, .int (iz (((i : Nat) : Int) + 1))), (6, .int (iz (480 + (6 * ((i : Nat) : Int))))), (0, .ref a0), (1, .int (iz st)), (2, .int (iz d)), (3, .int (iz t)), (4, .int (iz best))] dX12_breakOf_144 rfl (by decide) rfl ?_
                refine hv_goto C 6 dX12_breakOf_147 (by decide) ?_
                refine hv_loc [2, 3, 4, 5, 6, 0] [(0, .ref a0), (1, .int (iz st)), (2, .int (iz d)), (3, .int (iz t)), (4, .int (iz best)), (5, .int (iz (((i : Nat) : Int) + 1)))] rfl ?_
                exact ih6 (i + 1) best (by omega) (by omega) (by simp only [bk]; first | (rw [if_neg (by omega)]; exact hb) | (simp only [hq9]; rw [if_neg (by omega)]; exact hb) | (rw [if_pos (by omega)]) | (simp only [hq9]; rw [if_pos (by omega)])) (by omega)
              · skip
                refine hv_iload_n C 3 4 dX12_breakOf_79 rfl rfl ?_
                refine hv_aload_n C 0 1 dX12_breakOf_80 rfl rfl ?_
                refine mo_geta C K 0 1 (by decide) rfl mo_hw fl_7 rfl dX12_breakOf_81 ?_
                refine hv_iload C 6 0 dX12_breakOf_84 rfl ?_
                refine hv_iconst C dX12_breakOf_86 ?_
                refine hv_iadd C dX12_breakOf_87 ?_
                refine mo_iald C K 1 9040 ((480 + (6 * i)) + 2) rfl (by omega) (by omega) (by decide) dX12_breakOf_88 ?_
                refine hv_nm (fun x11 ex11 => ?_)
                have rx11 : inI x11 := by rw [ex11]; exact hσ 1 ((480 + (6 * i)) + 2)
                refine hv_aload_n C 0 1 dX12_breakOf_89 rfl rfl ?_
                refine mo_geta C K 0 1 (by decide) rfl mo_hw fl_7 rfl dX12_breakOf_90 ?_
                refine hv_iload C 6 0 dX12_breakOf_93 rfl ?_
                refine hv_iconst C dX12_breakOf_95 ?_
                refine hv_iadd C dX12_breakOf_96 ?_
                refine mo_iald C K 1 9040 ((480 + (6 * i)) + 3) rfl (by omega) (by omega) (by decide) dX12_breakOf_97 ?_
                refine hv_nm (fun x12 ex12 => ?_)
                have rx12 : inI x12 := by rw [ex12]; exact hσ 1 ((480 + (6 * i)) + 3)
                refine mo_callS [.int (iz t), .int (iz x11), .int (iz x12)] [] C K (k_isIn l σ t x11 x12 (by omega) (by omega) (by omega)) ck_isIn (by decide) rfl (Nat.le_of_ble_eq_true rfl) dX12_breakOf_98 ?_
                refine hv_dif_ne C 107 dX12_breakOf_101 (by decide)  (fun h101 => ?_) (fun h101 => ?_)
                · skip
                  refine hv_iload C 4 5 dX12_breakOf_107 rfl ?_
                  refine hv_if_lt C 140 dX12_breakOf_109 (by decide) (by omega) (fun h109 => ?_) (fun h109 => ?_)
                  · skip
                    refine hv_iload C 5 6 dX12_breakOf_140 rfl ?_
                    refine hv_istore C 4 [(4, .int (iz ((i : Nat) : Int))), (6, .int (iz (480 + (6 * ((i : Nat) : Int))))), (0, .ref a0), (1, .int (iz st)), (2, .int (iz d)), (3, .int (iz t)), (5, .int (iz ((i : Nat) : Int)))] dX12_breakOf_142 (by decide) rfl ?_
                    refine hv_iinc C 5 6 [(5, .int (iz (((i : Nat) : Int) + 1))), (4, .int (iz ((i : Nat) : Int))), (6, .int (iz (480 + (6 * ((i : Nat) : Int))))), (0, .ref a0), (1, .int (iz st)), (2, .int (iz d)), (3, .int (iz t))] dX12_breakOf_144 rfl (by decide) rfl ?_
                    refine hv_goto C 6 dX12_breakOf_147 (by decide) ?_
                    refine hv_loc [3, 4, 5, 6, 1, 0] [(0, .ref a0), (1, .int (iz st)), (2, .int (iz d)), (3, .int (iz t)), (4, .int (iz ((i : Nat) : Int))), (5, .int (iz (((i : Nat) : Int) + 1)))] rfl ?_
                    exact ih6 (i + 1) ((i : Nat) : Int) (by omega) (by omega) (by simp only [bk]; first | (rw [if_neg (by omega)]; exact hb) | (simp only [hq9]; rw [if_neg (by omega)]; exact hb) | (rw [if_pos (by omega)]) | (simp only [hq9]; rw [if_pos (by omega)])) (by omega)
                  · skip
                    obtain ⟨bn, rfl⟩ : ∃ n : Nat, best = (n : Int) := ⟨(best).toNat, by omega⟩
                    have hq9 : (bk (σ 1) st d t i).toNat = bn := by omega
                    refine hv_aload_n C 0 1 dX12_breakOf_112 rfl rfl ?_
                    refine mo_geta C K 0 1 (by decide) rfl mo_hw fl_7 rfl dX12_breakOf_113 ?_
                    refine hv_iload C 6 0 dX12_breakOf_116 rfl ?_
                    refine hv_iconst C dX12_breakOf_118 ?_
                    refine hv_iadd C dX12_breakOf_119 ?_
                    refine mo_iald C K 1 9040 ((480 + (6 * i)) + 4) rfl (by omega) (by omega) (by decide) dX12_breakOf_120 ?_
                    refine hv_nm (fun x13 ex13 => ?_)
                    have rx13 : inI x13 := by rw [ex13]; exact hσ 1 ((480 + (6 * i)) + 4)
                    refine hv_aload_n C 0 1 dX12_breakOf_121 rfl rfl ?_
                    refine mo_geta C K 0 1 (by decide) rfl mo_hw fl_7 rfl dX12_breakOf_122 ?_
                    refine hv_sipush C dX12_breakOf_125 (by decide) ?_
                    refine hv_bipush C dX12_breakOf_128 (by decide) ?_
                    refine hv_iload C 4 5 dX12_breakOf_130 rfl ?_
                    refine hv_imul C dX12_breakOf_132 ?_
                    refine hv_iadd C dX12_breakOf_133 ?_
                    refine hv_iconst C dX12_breakOf_134 ?_
                    refine hv_iadd C dX12_breakOf_135 ?_
                    refine mo_iald C K 1 9040 ((480 + (6 * bn)) + 4) rfl (by omega) (by omega) (by decide) dX12_breakOf_136 ?_
                    refine hv_nm (fun x14 ex14 => ?_)
                    have rx14 : inI x14 := by rw [ex14]; exact hσ 1 ((480 + (6 * bn)) + 4)
                    refine hv_icmp_lt C 144 dX12_breakOf_137 (by decide) (by omega) (by omega) (fun h137 => ?_) (fun h137 => ?_)
                    · skip
                      refine hv_iinc C 5 6 [(5, .int (iz (((i : Nat) : Int) + 1))), (6, .int (iz (480 + (6 * ((i : Nat) : Int))))), (0, .ref a0), (1, .int (iz st)), (2, .int (iz d)), (3, .int (iz t)), (4, .int (iz ((bn : Nat) : Int)))] dX12_breakOf_144 rfl (by decide) rfl ?_
                      refine hv_goto C 6 dX12_breakOf_147 (by decide) ?_
                      refine hv_loc [2, 3, 4, 5, 6, 0] [(0, .ref a0), (1, .int (iz st)), (2, .int (iz d)), (3, .int (iz t)), (4, .int (iz ((bn : Nat) : Int))), (5, .int (iz (((i : Nat) : Int) + 1)))] rfl ?_
                      exact ih6 (i + 1) ((bn : Nat) : Int) (by omega) (by omega) (by simp only [bk]; first | (rw [if_neg (by omega)]; exact hb) | (simp only [hq9]; rw [if_neg (by omega)]; exact hb) | (rw [if_pos (by omega)]) | (simp only [hq9]; rw [if_pos (by omega)])) (by omega)
                    · skip
                      refine hv_iload C 5 6 dX12_breakOf_140 rfl ?_
                      refine hv_istore C 4 [(4, .int (iz ((i : Nat) : Int))), (6, .int (iz (480 + (6 * ((i : Nat) : Int))))), (0, .ref a0), (1, .int (iz st)), (2, .int (iz d)), (3, .int (iz t)), (5, .int (iz ((i : Nat) : Int)))] dX12_breakOf_142 (by decide) rfl ?_
                      refine hv_iinc C 5 6 [(5, .int (iz (((i : Nat) : Int) + 1))), (4, .int (iz ((i : Nat) : Int))), (6, .int (iz (480 + (6 * ((i : Nat) : Int))))), (0, .ref a0), (1, .int (iz st)), (2, .int (iz d)), (3, .int (iz t))] dX12_breakOf_144 rfl (by decide) rfl ?_
                      refine hv_goto C 6 dX12_breakOf_147 (by decide) ?_
                      refine hv_loc [3, 4, 5, 6, 1, 0] [(0, .ref a0), (1, .int (iz st)), (2, .int (iz d)), (3, .int (iz t)), (4, .int (iz ((i : Nat) : Int))), (5, .int (iz (((i : Nat) : Int) + 1)))] rfl ?_
                      exact ih6 (i + 1) ((i : Nat) : Int) (by omega) (by omega) (by simp only [bk]; first | (rw [if_neg (by omega)]; exact hb) | (simp only [hq9]; rw [if_neg (by omega)]; exact hb) | (rw [if_pos (by omega)]) | (simp only [hq9]; rw [if_pos (by omega)])) (by omega)
                · skip
                  refine hv_goto C 144 dX12_breakOf_104 (by decide) ?_
                  refine hv_iinc C 5 6 [(5, .int (iz (((i : Nat) : Int) + 1))), (6, .int (iz (480 + (6 * ((i : Nat) : Int))))), (0, .ref a0), (1, .int (iz st)), (2, .int (iz d)), (3, .int (iz t)), (4, .int (iz best))] dX12_breakOf_144 rfl (by decide) rfl ?_
                  refine hv_goto C 6 dX12_breakOf_147 (by decide) ?_
                  refine hv_loc [2, 3, 4, 5, 6, 0] [(0, .ref a0), (1, .int (iz st)), (2, .int (iz d)), (3, .int (iz t)), (4, .int (iz best)), (5, .int (iz (((i : Nat) : Int) + 1)))] rfl ?_
                  exact ih6 (i + 1) best (by omega) (by omega) (by simp only [bk]; first | (rw [if_neg (by omega)]; exact hb) | (simp only [hq9]; rw [if_neg (by omega)]; exact hb) | (rw [if_pos (by omega)]) | (simp only [hq9]; rw [if_pos (by omega)])) (by omega)
  refine hv_loc [2, 3, 4, 5, 1, 0] [(0, .ref a0), (1, .int (iz st)), (2, .int (iz d)), (3, .int (iz t)), (4, .int (iz (-1))), (5, .int (iz 0))] rfl ?_
  exact L6 _ 0 (-1) (Nat.lt_succ_self _) (by omega) rfl (by decide)
theorem dX12_isThen_0 : decode cX12_isThen 0 = .ok (.aload_n 0, 1) := by decide +kernel
theorem dX12_isThen_1 : decode cX12_isThen 1 = .ok (.aload_n 0, 1) := by decide +kernel
theorem dX12_isThen_2 : decode cX12_isThen 2 = .ok (.iload_n 1, 1) := by decide +kernel
theorem dX12_isThen_3 : decode cX12_isThen 3 = .ok (.bipush 7, 2) := by decide +kernel
theorem dX12_isThen_5 : decode cX12_isThen 5 = .ok (.invokevirtual 67, 3) := by decide +kernel
theorem dX12_isThen_8 : decode cX12_isThen 8 = .ok (.invokevirtual 71, 3) := by decide +kernel
theorem dX12_isThen_11 : decode cX12_isThen 11 = .ok (.ifCond .eq 45, 3) := by decide +kernel
theorem dX12_isThen_14 : decode cX12_isThen 14 = .ok (.aload_n 0, 1) := by decide +kernel
theorem dX12_isThen_15 : decode cX12_isThen 15 = .ok (.iload_n 1, 1) := by decide +kernel
theorem dX12_isThen_16 : decode cX12_isThen 16 = .ok (.iconst 1, 1) := by decide +kernel
theorem dX12_isThen_17 : decode cX12_isThen 17 = .ok (.invokevirtual 67, 3) := by decide +kernel
theorem dX12_isThen_20 : decode cX12_isThen 20 = .ok (.iload_n 2, 1) := by decide +kernel
theorem dX12_isThen_21 : decode cX12_isThen 21 = .ok (.if_icmp .ne 35, 3) := by decide +kernel
theorem dX12_isThen_24 : decode cX12_isThen 24 = .ok (.iload_n 3, 1) := by decide +kernel
theorem dX12_isThen_25 : decode cX12_isThen 25 = .ok (.aload_n 0, 1) := by decide +kernel
theorem dX12_isThen_26 : decode cX12_isThen 26 = .ok (.iload_n 1, 1) := by decide +kernel
theorem dX12_isThen_27 : decode cX12_isThen 27 = .ok (.iconst 2, 1) := by decide +kernel
theorem dX12_isThen_28 : decode cX12_isThen 28 = .ok (.invokevirtual 67, 3) := by decide +kernel
theorem dX12_isThen_31 : decode cX12_isThen 31 = .ok (.aload_n 0, 1) := by decide +kernel
theorem dX12_isThen_32 : decode cX12_isThen 32 = .ok (.iload_n 1, 1) := by decide +kernel
theorem dX12_isThen_33 : decode cX12_isThen 33 = .ok (.iconst 2, 1) := by decide +kernel
theorem dX12_isThen_34 : decode cX12_isThen 34 = .ok (.invokevirtual 67, 3) := by decide +kernel
theorem dX12_isThen_37 : decode cX12_isThen 37 = .ok (.aload_n 0, 1) := by decide +kernel
theorem dX12_isThen_38 : decode cX12_isThen 38 = .ok (.iload_n 1, 1) := by decide +kernel
theorem dX12_isThen_39 : decode cX12_isThen 39 = .ok (.iconst 3, 1) := by decide +kernel
theorem dX12_isThen_40 : decode cX12_isThen 40 = .ok (.invokevirtual 67, 3) := by decide +kernel
theorem dX12_isThen_43 : decode cX12_isThen 43 = .ok (.iadd, 1) := by decide +kernel
theorem dX12_isThen_44 : decode cX12_isThen 44 = .ok (.iconst 1, 1) := by decide +kernel
theorem dX12_isThen_45 : decode cX12_isThen 45 = .ok (.isub, 1) := by decide +kernel
theorem dX12_isThen_46 : decode cX12_isThen 46 = .ok (.invokestatic 59, 3) := by decide +kernel
theorem dX12_isThen_49 : decode cX12_isThen 49 = .ok (.ifCond .eq 7, 3) := by decide +kernel
theorem dX12_isThen_52 : decode cX12_isThen 52 = .ok (.iconst 1, 1) := by decide +kernel
theorem dX12_isThen_53 : decode cX12_isThen 53 = .ok (.goto 4, 3) := by decide +kernel
theorem dX12_isThen_56 : decode cX12_isThen 56 = .ok (.iconst 0, 1) := by decide +kernel
theorem dX12_isThen_57 : decode cX12_isThen 57 = .ok (.ireturn, 1) := by decide +kernel
set_option maxRecDepth 100000 in
set_option maxHeartbeats 4000000 in
theorem k_isThen (l : Launch) {D : va_G} {cI cZ : ClassId} {a0 : Nat} (σ : Nat → Nat → Int) (h : Nat) (d : Int) (t : Int) (hσ : rg σ) (hc : cn (σ 1)) (hh : hi (σ 1)) (hl : (h : Int) < σ 1 4) (r_d : inI d) (r_t : inI t) : moM l D cI cZ a0 yX12_isThen cX12_isThen 4 (some .boolean) 1 22 [.ref a0, .int (iz ((h : Nat) : Int)), .int (iz d), .int (iz t)] σ (some (.int (iz (xb (decide ((σ 1 9 = -1 ∨ σ 1 (280 + 8 * h + 7) ≤ σ 1 9) ∧ σ 1 (280 + 8 * h + 1) = d ∧ (σ 1 (280 + 8 * h + 2) ≤ t ∧ t ≤ σ 1 (280 + 8 * h + 2) + σ 1 (280 + 8 * h + 3) - 1))))))) (σ) := by
  refine mo_start (by decide) rfl (Nat.le_of_ble_eq_true rfl) ?_
  intro p e s m args below meth c C K hr hlk
  have hhn := hh h hl
  refine hv_aload_n C 0 0 dX12_isThen_0 rfl rfl ?_
  refine hv_aload_n C 0 0 dX12_isThen_1 rfl rfl ?_
  refine hv_iload_n C 1 1 dX12_isThen_2 rfl rfl ?_
  refine hv_bipush C dX12_isThen_3 (by decide) ?_
  refine mo_call [.int (iz ((h : Nat) : Int)), .int (iz 7)] [.ref a0] C K (k_hourOf l σ h 7 (by omega) (by omega)) ck_hourOf (by decide) rfl (Nat.le_of_ble_eq_true rfl) dX12_isThen_5 ?_
  refine hv_nm (fun x1 ex1 => ?_)
  have rx1 : inI x1 := by rw [ex1]; exact hσ _ _
  refine mo_call [.int (iz x1)] [] C K (k_isSeen l σ x1 hσ (by omega)) ck_isSeen (by decide) rfl (Nat.le_of_ble_eq_true rfl) dX12_isThen_8 ?_
  refine hv_dif_eq C 56 dX12_isThen_11 (by decide)  (fun h11 => ?_) (fun h11 => ?_)
  · skip
    refine hv_iconst C dX12_isThen_56 ?_
    exact mo_zret (Qc := fun _ _ _ _ => True) C hr hlk ((xb_f (decide_eq_false (by omega))).symm) rfl dX12_isThen_57
  · skip
    refine hv_aload_n C 0 0 dX12_isThen_14 rfl rfl ?_
    refine hv_iload_n C 1 1 dX12_isThen_15 rfl rfl ?_
    refine hv_iconst C dX12_isThen_16 ?_
    refine mo_call [.int (iz ((h : Nat) : Int)), .int (iz 1)] [] C K (k_hourOf l σ h 1 (by omega) (by omega)) ck_hourOf (by decide) rfl (Nat.le_of_ble_eq_true rfl) dX12_isThen_17 ?_
    refine hv_nm (fun x2 ex2 => ?_)
    have rx2 : inI x2 := by rw [ex2]; exact hσ _ _
    refine hv_iload_n C 2 2 dX12_isThen_20 rfl rfl ?_
    refine hv_icmp_ne C 56 dX12_isThen_21 (by decide) (by omega) (by omega) (fun h21 => ?_) (fun h21 => ?_)
    · skip
      refine hv_iconst C dX12_isThen_56 ?_
      exact mo_zret (Qc := fun _ _ _ _ => True) C hr hlk ((xb_f (decide_eq_false (by omega))).symm) rfl dX12_isThen_57
    · skip
      refine hv_iload_n C 3 3 dX12_isThen_24 rfl rfl ?_
      refine hv_aload_n C 0 0 dX12_isThen_25 rfl rfl ?_
      refine hv_iload_n C 1 1 dX12_isThen_26 rfl rfl ?_
      refine hv_iconst C dX12_isThen_27 ?_
      refine mo_call [.int (iz ((h : Nat) : Int)), .int (iz 2)] [.int (iz t)] C K (k_hourOf l σ h 2 (by omega) (by omega)) ck_hourOf (by decide) rfl (Nat.le_of_ble_eq_true rfl) dX12_isThen_28 ?_
      refine hv_nm (fun x3 ex3 => ?_)
      have rx3 : inI x3 := by rw [ex3]; exact hσ _ _
      refine hv_aload_n C 0 0 dX12_isThen_31 rfl rfl ?_
      refine hv_iload_n C 1 1 dX12_isThen_32 rfl rfl ?_
      refine hv_iconst C dX12_isThen_33 ?_
      refine mo_call [.int (iz ((h : Nat) : Int)), .int (iz 2)] [.int (iz x3), .int (iz t)] C K (k_hourOf l σ h 2 (by omega) (by omega)) ck_hourOf (by decide) rfl (Nat.le_of_ble_eq_true rfl) dX12_isThen_34 ?_
      refine hv_nm (fun x4 ex4 => ?_)
      have rx4 : inI x4 := by rw [ex4]; exact hσ _ _
      refine hv_aload_n C 0 0 dX12_isThen_37 rfl rfl ?_
      refine hv_iload_n C 1 1 dX12_isThen_38 rfl rfl ?_
      refine hv_iconst C dX12_isThen_39 ?_
      refine mo_call [.int (iz ((h : Nat) : Int)), .int (iz 3)] [.int (iz x4), .int (iz x3), .int (iz t)] C K (k_hourOf l σ h 3 (by omega) (by omega)) ck_hourOf (by decide) rfl (Nat.le_of_ble_eq_true rfl) dX12_isThen_40 ?_
      refine hv_nm (fun x5 ex5 => ?_)
      have rx5 : inI x5 := by rw [ex5]; exact hσ _ _
      refine hv_iadd C dX12_isThen_43 ?_
      refine hv_iconst C dX12_isThen_44 ?_
      refine hv_isub C dX12_isThen_45 ?_
      refine mo_callS [.int (iz t), .int (iz x3), .int (iz ((x4 + x5) - 1))] [] C K (k_isIn l σ t x3 ((x4 + x5) - 1) (by omega) (by omega) (by omega)) ck_isIn (by decide) rfl (Nat.le_of_ble_eq_true rfl) dX12_isThen_46 ?_
      refine hv_dif_eq C 56 dX12_isThen_49 (by decide)  (fun h49 => ?_) (fun h49 => ?_)
      · skip
        refine hv_iconst C dX12_isThen_56 ?_
        exact mo_zret (Qc := fun _ _ _ _ => True) C hr hlk ((xb_f (decide_eq_false (by omega))).symm) rfl dX12_isThen_57
      · skip
        refine hv_iconst C dX12_isThen_52 ?_
        refine hv_goto C 57 dX12_isThen_53 (by decide) ?_
        exact mo_zret (Qc := fun _ _ _ _ => True) C hr hlk ((xb_t (decide_eq_true (by omega))).symm) rfl dX12_isThen_57
theorem dX12_feed_0 : decode cX12_feed 0 = .ok (.aload_n 0, 1) := by decide +kernel
theorem dX12_feed_1 : decode cX12_feed 1 = .ok (.getfield 7, 3) := by decide +kernel
theorem dX12_feed_4 : decode cX12_feed 4 = .ok (.bipush 10, 2) := by decide +kernel
theorem dX12_feed_6 : decode cX12_feed 6 = .ok (.iaload, 1) := by decide +kernel
theorem dX12_feed_7 : decode cX12_feed 7 = .ok (.bipush 20, 2) := by decide +kernel
theorem dX12_feed_9 : decode cX12_feed 9 = .ok (.iadd, 1) := by decide +kernel
theorem dX12_feed_10 : decode cX12_feed 10 = .ok (.sipush 500, 3) := by decide +kernel
theorem dX12_feed_13 : decode cX12_feed 13 = .ok (.if_icmp .le 5, 3) := by decide +kernel
theorem dX12_feed_16 : decode cX12_feed 16 = .ok (.iconst (-1), 1) := by decide +kernel
theorem dX12_feed_17 : decode cX12_feed 17 = .ok (.ireturn, 1) := by decide +kernel
theorem dX12_feed_18 : decode cX12_feed 18 = .ok (.iconst 0, 1) := by decide +kernel
theorem dX12_feed_19 : decode cX12_feed 19 = .ok (.istore 6, 2) := by decide +kernel
theorem dX12_feed_21 : decode cX12_feed 21 = .ok (.iload 6, 2) := by decide +kernel
theorem dX12_feed_23 : decode cX12_feed 23 = .ok (.bipush 20, 2) := by decide +kernel
theorem dX12_feed_25 : decode cX12_feed 25 = .ok (.if_icmp .ge 101, 3) := by decide +kernel
theorem dX12_feed_28 : decode cX12_feed 28 = .ok (.iload 6, 2) := by decide +kernel
theorem dX12_feed_30 : decode cX12_feed 30 = .ok (.iconst 4, 1) := by decide +kernel
theorem dX12_feed_31 : decode cX12_feed 31 = .ok (.if_icmp .ge 7, 3) := by decide +kernel
theorem dX12_feed_34 : decode cX12_feed 34 = .ok (.iload_n 1, 1) := by decide +kernel
theorem dX12_feed_35 : decode cX12_feed 35 = .ok (.goto 39, 3) := by decide +kernel
theorem dX12_feed_38 : decode cX12_feed 38 = .ok (.iload 6, 2) := by decide +kernel
theorem dX12_feed_40 : decode cX12_feed 40 = .ok (.bipush 8, 2) := by decide +kernel
theorem dX12_feed_42 : decode cX12_feed 42 = .ok (.if_icmp .ge 7, 3) := by decide +kernel
theorem dX12_feed_45 : decode cX12_feed 45 = .ok (.iload_n 2, 1) := by decide +kernel
theorem dX12_feed_46 : decode cX12_feed 46 = .ok (.goto 28, 3) := by decide +kernel
theorem dX12_feed_49 : decode cX12_feed 49 = .ok (.iload 6, 2) := by decide +kernel
theorem dX12_feed_51 : decode cX12_feed 51 = .ok (.bipush 12, 2) := by decide +kernel
theorem dX12_feed_53 : decode cX12_feed 53 = .ok (.if_icmp .ge 7, 3) := by decide +kernel
theorem dX12_feed_56 : decode cX12_feed 56 = .ok (.iload_n 3, 1) := by decide +kernel
theorem dX12_feed_57 : decode cX12_feed 57 = .ok (.goto 17, 3) := by decide +kernel
theorem dX12_feed_60 : decode cX12_feed 60 = .ok (.iload 6, 2) := by decide +kernel
theorem dX12_feed_62 : decode cX12_feed 62 = .ok (.bipush 16, 2) := by decide +kernel
theorem dX12_feed_64 : decode cX12_feed 64 = .ok (.if_icmp .ge 8, 3) := by decide +kernel
theorem dX12_feed_67 : decode cX12_feed 67 = .ok (.iload 4, 2) := by decide +kernel
theorem dX12_feed_69 : decode cX12_feed 69 = .ok (.goto 5, 3) := by decide +kernel
theorem dX12_feed_72 : decode cX12_feed 72 = .ok (.iload 5, 2) := by decide +kernel
theorem dX12_feed_74 : decode cX12_feed 74 = .ok (.istore 7, 2) := by decide +kernel
theorem dX12_feed_76 : decode cX12_feed 76 = .ok (.aload_n 0, 1) := by decide +kernel
theorem dX12_feed_77 : decode cX12_feed 77 = .ok (.getfield 7, 3) := by decide +kernel
theorem dX12_feed_80 : decode cX12_feed 80 = .ok (.sipush 1760, 3) := by decide +kernel
theorem dX12_feed_83 : decode cX12_feed 83 = .ok (.aload_n 0, 1) := by decide +kernel
theorem dX12_feed_84 : decode cX12_feed 84 = .ok (.getfield 7, 3) := by decide +kernel
theorem dX12_feed_87 : decode cX12_feed 87 = .ok (.bipush 10, 2) := by decide +kernel
theorem dX12_feed_89 : decode cX12_feed 89 = .ok (.iaload, 1) := by decide +kernel
theorem dX12_feed_90 : decode cX12_feed 90 = .ok (.iadd, 1) := by decide +kernel
theorem dX12_feed_91 : decode cX12_feed 91 = .ok (.iload 7, 2) := by decide +kernel
theorem dX12_feed_93 : decode cX12_feed 93 = .ok (.bipush 24, 2) := by decide +kernel
theorem dX12_feed_95 : decode cX12_feed 95 = .ok (.bipush 8, 2) := by decide +kernel
theorem dX12_feed_97 : decode cX12_feed 97 = .ok (.iload 6, 2) := by decide +kernel
theorem dX12_feed_99 : decode cX12_feed 99 = .ok (.iconst 4, 1) := by decide +kernel
theorem dX12_feed_100 : decode cX12_feed 100 = .ok (.irem, 1) := by decide +kernel
theorem dX12_feed_101 : decode cX12_feed 101 = .ok (.imul, 1) := by decide +kernel
theorem dX12_feed_102 : decode cX12_feed 102 = .ok (.isub, 1) := by decide +kernel
theorem dX12_feed_103 : decode cX12_feed 103 = .ok (.ishr, 1) := by decide +kernel
theorem dX12_feed_104 : decode cX12_feed 104 = .ok (.sipush 255, 3) := by decide +kernel
theorem dX12_feed_107 : decode cX12_feed 107 = .ok (.iand, 1) := by decide +kernel
theorem dX12_feed_108 : decode cX12_feed 108 = .ok (.iastore, 1) := by decide +kernel
theorem dX12_feed_109 : decode cX12_feed 109 = .ok (.aload_n 0, 1) := by decide +kernel
theorem dX12_feed_110 : decode cX12_feed 110 = .ok (.getfield 7, 3) := by decide +kernel
theorem dX12_feed_113 : decode cX12_feed 113 = .ok (.bipush 10, 2) := by decide +kernel
theorem dX12_feed_115 : decode cX12_feed 115 = .ok (.dup2, 1) := by decide +kernel
theorem dX12_feed_116 : decode cX12_feed 116 = .ok (.iaload, 1) := by decide +kernel
theorem dX12_feed_117 : decode cX12_feed 117 = .ok (.iconst 1, 1) := by decide +kernel
theorem dX12_feed_118 : decode cX12_feed 118 = .ok (.iadd, 1) := by decide +kernel
theorem dX12_feed_119 : decode cX12_feed 119 = .ok (.iastore, 1) := by decide +kernel
theorem dX12_feed_120 : decode cX12_feed 120 = .ok (.iinc 6 1, 3) := by decide +kernel
theorem dX12_feed_123 : decode cX12_feed 123 = .ok (.goto (-102), 3) := by decide +kernel
theorem dX12_feed_126 : decode cX12_feed 126 = .ok (.aload_n 0, 1) := by decide +kernel
theorem dX12_feed_127 : decode cX12_feed 127 = .ok (.getfield 7, 3) := by decide +kernel
theorem dX12_feed_130 : decode cX12_feed 130 = .ok (.bipush 10, 2) := by decide +kernel
theorem dX12_feed_132 : decode cX12_feed 132 = .ok (.iaload, 1) := by decide +kernel
theorem dX12_feed_133 : decode cX12_feed 133 = .ok (.ireturn, 1) := by decide +kernel
set_option maxRecDepth 100000 in
set_option maxHeartbeats 4000000 in
theorem k_feed (l : Launch) {D : va_G} {cI cZ : ClassId} {a0 : Nat} (σ : Nat → Nat → Int) (a : Int) (b : Int) (c9 : Int) (d : Int) (e9 : Int) (hσ : rg σ) (hc : cn (σ 1)) (r_a : inI a) (r_b : inI b) (r_c9 : inI c9) (r_d : inI d) (r_e9 : inI e9) : moM l D cI cZ a0 yX12_feed cX12_feed 8 (some .int) 0 0 [.ref a0, .int (iz a), .int (iz b), .int (iz c9), .int (iz d), .int (iz e9)] σ (some (.int (iz (if 500 < σ 1 10 + 20 then -1 else σ 1 10 + 20)))) (if 500 < σ 1 10 + 20 then σ else sA σ 1 (fd (σ 1) a b c9 d e9 20)) := by
  refine mo_start (by decide) rfl (Nat.le_of_ble_eq_true rfl) ?_
  intro p e s m args below meth c C K hr hlk
  refine hv_aload_n C 0 0 dX12_feed_0 rfl rfl ?_
  refine mo_geta C K 0 1 (by decide) rfl mo_hw fl_7 rfl dX12_feed_1 ?_
  refine hv_bipush C dX12_feed_4 (by decide) ?_
  refine mo_iald C K 1 9040 10 rfl (by omega) (by omega) (by decide) dX12_feed_6 ?_
  refine hv_nm (fun x1 ex1 => ?_)
  have rx1 : inI x1 := by rw [ex1]; exact hσ 1 10
  refine hv_bipush C dX12_feed_7 (by decide) ?_
  refine hv_iadd C dX12_feed_9 ?_
  refine hv_sipush C dX12_feed_10 (by decide) ?_
  refine hv_icmp_le C 18 dX12_feed_13 (by decide) (by omega) (by omega) (fun h13 => ?_) (fun h13 => ?_)
  · skip
    refine hv_iconst C dX12_feed_18 ?_
    refine hv_istore C 6 [(6, .int (iz 0)), (0, .ref a0), (1, .int (iz a)), (2, .int (iz b)), (3, .int (iz c9)), (4, .int (iz d)), (5, .int (iz e9))] dX12_feed_19 (by decide) rfl ?_
    have L21 : ∀ (f : Nat) (i : Nat) (τ : Nat → Nat → Int), 20 - i < f → i ≤ 20 → τ = sA σ 1 (fd (σ 1) a b c9 d e9 i) → τ 1 10 = σ 1 10 + (i : Int) → hvV p l e { frames := 0, cells := 0, slots := 0, locals := 0 } s m args below meth c 8 (moR a0) 0 0 (MQ below (moQ D cI cZ a0 (some (.int (iz (if 500 < σ 1 10 + 20 then -1 else σ 1 10 + 20)))) (if 500 < σ 1 10 + 20 then σ else sA σ 1 (fd (σ 1) a b c9 d e9 20))) args s 0 0 (moR a0)) (moI D cI cZ a0 s.heap (τ)) 21 [(0, .ref a0), (1, .int (iz a)), (2, .int (iz b)), (3, .int (iz c9)), (4, .int (iz d)), (5, .int (iz e9)), (6, .int (iz ((i : Nat) : Int)))] [] := by
      intro f
      induction f with
      | zero => intro _ _ hm; exact absurd hm (Nat.not_lt_zero _)
      | succ f ih21 =>
        intro i τ hm21 hi hτ h10
        refine hv_iload C 6 6 dX12_feed_21 rfl ?_
        refine hv_bipush C dX12_feed_23 (by decide) ?_
        refine hv_icmp_ge C 126 dX12_feed_25 (by decide) (by omega) (by omega) (fun h25 => ?_) (fun h25 => ?_)
        · skip
          refine hv_aload_n C 0 0 dX12_feed_126 rfl rfl ?_
          refine mo_geta C K 0 1 (by decide) rfl mo_hw fl_7 rfl dX12_feed_127 ?_
          refine hv_bipush C dX12_feed_130 (by decide) ?_
          refine mo_iald C K 1 9040 10 rfl (by omega) (by omega) (by decide) dX12_feed_132 ?_
          refine hv_nm (fun x2 ex2 => ?_)
          exact mo_iret (Qc := fun _ _ _ _ => True) C hr hlk (by first | exact if_p (by omega) rfl | (refine if_n (by omega) ?_; omega)) (by first | exact if_p (by omega) rfl | (refine if_n (by omega) ?_; have hq : i = 20 := (by omega); subst hq; exact hτ)) dX12_feed_133
        · skip
          refine hv_iload C 6 6 dX12_feed_28 rfl ?_
          refine hv_iconst C dX12_feed_30 ?_
          refine hv_icmp_ge C 38 dX12_feed_31 (by decide) (by omega) (by omega) (fun h31 => ?_) (fun h31 => ?_)
          · skip
            refine hv_iload C 6 6 dX12_feed_38 rfl ?_
            refine hv_bipush C dX12_feed_40 (by decide) ?_
            refine hv_icmp_ge C 49 dX12_feed_42 (by decide) (by omega) (by omega) (fun h42 => ?_) (fun h42 => ?_)
            · skip
              refine hv_iload C 6 6 dX12_feed_49 rfl ?_
              refine hv_bipush C dX12_feed_51 (by decide) ?_
              refine hv_icmp_ge C 60 dX12_feed_53 (by decide) (by omega) (by omega) (fun h53 => ?_) (fun h53 => ?_)
              · skip
                refine hv_iload C 6 6 dX12_feed_60 rfl ?_
                refine hv_bipush C dX12_feed_62 (by decide) ?_
                refine hv_icmp_ge C 72 dX12_feed_64 (by decide) (by omega) (by omega) (fun h64 => ?_) (fun h64 => ?_)
                · skip
                  refine hv_iload C 5 5 dX12_feed_72 rfl ?_
                  refine hv_istore C 7 [(7, .int (iz e9)), (0, .ref a0), (1, .int (iz a)), (2, .int (iz b)), (3, .int (iz c9)), (4, .int (iz d)), (5, .int (iz e9)), (6, .int (iz ((i : Nat) : Int)))] dX12_feed_74 (by decide) rfl ?_
                  refine hv_aload_n C 0 1 dX12_feed_76 rfl rfl ?_
                  refine mo_geta C K 0 1 (by decide) rfl mo_hw fl_7 rfl dX12_feed_77 ?_
                  refine hv_sipush C dX12_feed_80 (by decide) ?_
                  refine hv_aload_n C 0 1 dX12_feed_83 rfl rfl ?_
                  refine mo_geta C K 0 1 (by decide) rfl mo_hw fl_7 rfl dX12_feed_84 ?_
                  refine hv_bipush C dX12_feed_87 (by decide) ?_
                  refine mo_iald C K 1 9040 10 rfl (by omega) (by omega) (by decide) dX12_feed_89 ?_
                  refine hv_nm (fun x3 ex3 => ?_)
                  obtain ⟨n3, rfl⟩ : ∃ n : Nat, x3 = (n : Int) := ⟨(x3).toNat, by omega⟩
                  have en3 : ((n3 : Nat) : Int) = τ 1 10 := by assumption
                  refine hv_iadd C dX12_feed_90 ?_
                  refine hv_iload C 7 0 dX12_feed_91 rfl ?_
                  refine hv_bipush C dX12_feed_93 (by decide) ?_
                  refine hv_bipush C dX12_feed_95 (by decide) ?_
                  refine hv_iload C 6 7 dX12_feed_97 rfl ?_
                  refine hv_iconst C dX12_feed_99 ?_
                  refine hv_irem C (by omega) (by omega) (by omega) (by omega) dX12_feed_100 ?_
                  refine hv_imul C dX12_feed_101 ?_
                  refine hv_isub C dX12_feed_102 ?_
                  refine hv_ishr C (((24 - (8 * (((i : Nat) : Int) % 4))) : Int)).toNat (by omega) (by omega) (by omega) dX12_feed_103 ?_
                  refine hv_sipush C dX12_feed_104 (by decide) ?_
                  refine hv_imsk C 8 (by decide) (by decide) dX12_feed_107 ?_
                  refine mo_iast C K 1 9040 (1760 + n3) rfl (moW_set1 _ _ _ _ _ _) (by omega) (by omega) (by decide) dX12_feed_108 ?_
                  refine hv_aload_n C 0 1 dX12_feed_109 rfl rfl ?_
                  refine mo_geta C K 0 1 (by decide) rfl mo_hw fl_7 rfl dX12_feed_110 ?_
                  refine hv_bipush C dX12_feed_113 (by decide) ?_
                  refine hv_dup2 C dX12_feed_115 rfl rfl ?_
                  refine mo_iald C K 1 9040 10 rfl (by omega) (by omega) (by decide) dX12_feed_116 ?_
                  refine hv_nm (fun x4 ex4 => ?_)
                  refine hv_iconst C dX12_feed_117 ?_
                  refine hv_iadd C dX12_feed_118 ?_
                  refine mo_iast C K 1 9040 10 rfl (moW_set1 _ _ _ _ _ _) (by omega) (by omega) (by decide) dX12_feed_119 ?_
                  refine hv_iinc C 6 7 [(6, .int (iz (((i : Nat) : Int) + 1))), (7, .int (iz e9)), (0, .ref a0), (1, .int (iz a)), (2, .int (iz b)), (3, .int (iz c9)), (4, .int (iz d)), (5, .int (iz e9))] dX12_feed_120 rfl (by decide) rfl ?_
                  refine hv_goto C 21 dX12_feed_123 (by decide) ?_
                  refine hv_loc [2, 3, 4, 5, 6, 7, 0] [(0, .ref a0), (1, .int (iz a)), (2, .int (iz b)), (3, .int (iz c9)), (4, .int (iz d)), (5, .int (iz e9)), (6, .int (iz (((i : Nat) : Int) + 1)))] rfl ?_
                  exact ih21 (i + 1) (u2 (u2 τ 1 (1760 + n3) ((e9 / 2 ^ (((24 - (8 * (((i : Nat) : Int) % 4))) : Int)).toNat) % 2 ^ 8)) 1 10 (x4 + 1)) (by omega) (by omega) (by subst_vars; simp only [sA_at] at en3 h10; simp only [u2_sA, sA_sA, sA_at]; rw [ua_ne (k := 10) _ _ (by omega)]; have e4 : ((fd (σ 1) a b c9 d e9 i) 10).toNat = n3 := (by omega); simp only [fd, fdw, e4]; repeat (first | rw [if_pos (by omega)] | rw [if_neg (by omega)])) (by rw [u2_same]; subst_vars; rw [u2_ne _ _ _ (by omega)]; omega)
                · skip
                  refine hv_iload C 4 4 dX12_feed_67 rfl ?_
                  refine hv_goto C 74 dX12_feed_69 (by decide) ?_
                  refine hv_istore C 7 [(7, .int (iz d)), (0, .ref a0), (1, .int (iz a)), (2, .int (iz b)), (3, .int (iz c9)), (4, .int (iz d)), (5, .int (iz e9)), (6, .int (iz ((i : Nat) : Int)))] dX12_feed_74 (by decide) rfl ?_
                  refine hv_aload_n C 0 1 dX12_feed_76 rfl rfl ?_
                  refine mo_geta C K 0 1 (by decide) rfl mo_hw fl_7 rfl dX12_feed_77 ?_
                  refine hv_sipush C dX12_feed_80 (by decide) ?_
                  refine hv_aload_n C 0 1 dX12_feed_83 rfl rfl ?_
                  refine mo_geta C K 0 1 (by decide) rfl mo_hw fl_7 rfl dX12_feed_84 ?_
                  refine hv_bipush C dX12_feed_87 (by decide) ?_
                  refine mo_iald C K 1 9040 10 rfl (by omega) (by omega) (by decide) dX12_feed_89 ?_
                  refine hv_nm (fun x5 ex5 => ?_)
                  obtain ⟨n3, rfl⟩ : ∃ n : Nat, x5 = (n : Int) := ⟨(x5).toNat, by omega⟩
                  have en3 : ((n3 : Nat) : Int) = τ 1 10 := by assumption
                  refine hv_iadd C dX12_feed_90 ?_
                  refine hv_iload C 7 0 dX12_feed_91 rfl ?_
                  refine hv_bipush C dX12_feed_93 (by decide) ?_
                  refine hv_bipush C dX12_feed_95 (by decide) ?_
                  refine hv_iload C 6 7 dX12_feed_97 rfl ?_
                  refine hv_iconst C dX12_feed_99 ?_
                  refine hv_irem C (by omega) (by omega) (by omega) (by omega) dX12_feed_100 ?_
                  refine hv_imul C dX12_feed_101 ?_
                  refine hv_isub C dX12_feed_102 ?_
                  refine hv_ishr C (((24 - (8 * (((i : Nat) : Int) % 4))) : Int)).toNat (by omega) (by omega) (by omega) dX12_feed_103 ?_
                  refine hv_sipush C dX12_feed_104 (by decide) ?_
                  refine hv_imsk C 8 (by decide) (by decide) dX12_feed_107 ?_
                  refine mo_iast C K 1 9040 (1760 + n3) rfl (moW_set1 _ _ _ _ _ _) (by omega) (by omega) (by decide) dX12_feed_108 ?_
                  refine hv_aload_n C 0 1 dX12_feed_109 rfl rfl ?_
                  refine mo_geta C K 0 1 (by decide) rfl mo_hw fl_7 rfl dX12_feed_110 ?_
                  refine hv_bipush C dX12_feed_113 (by decide) ?_
                  refine hv_dup2 C dX12_feed_115 rfl rfl ?_
                  refine mo_iald C K 1 9040 10 rfl (by omega) (by omega) (by decide) dX12_feed_116 ?_
                  refine hv_nm (fun x6 ex6 => ?_)
                  refine hv_iconst C dX12_feed_117 ?_
                  refine hv_iadd C dX12_feed_118 ?_
                  refine mo_iast C K 1 9040 10 rfl (moW_set1 _ _ _ _ _ _) (by omega) (by omega) (by decide) dX12_feed_119 ?_
                  refine hv_iinc C 6 7 [(6, .int (iz (((i : Nat) : Int) + 1))), (7, .int (iz d)), (0, .ref a0), (1, .int (iz a)), (2, .int (iz b)), (3, .int (iz c9)), (4, .int (iz d)), (5, .int (iz e9))] dX12_feed_120 rfl (by decide) rfl ?_
                  refine hv_goto C 21 dX12_feed_123 (by decide) ?_
                  refine hv_loc [2, 3, 4, 5, 6, 7, 0] [(0, .ref a0), (1, .int (iz a)), (2, .int (iz b)), (3, .int (iz c9)), (4, .int (iz d)), (5, .int (iz e9)), (6, .int (iz (((i : Nat) : Int) + 1)))] rfl ?_
                  exact ih21 (i + 1) (u2 (u2 τ 1 (1760 + n3) ((d / 2 ^ (((24 - (8 * (((i : Nat) : Int) % 4))) : Int)).toNat) % 2 ^ 8)) 1 10 (x6 + 1)) (by omega) (by omega) (by subst_vars; simp only [sA_at] at en3 h10; simp only [u2_sA, sA_sA, sA_at]; rw [ua_ne (k := 10) _ _ (by omega)]; have e4 : ((fd (σ 1) a b c9 d e9 i) 10).toNat = n3 := (by omega); simp only [fd, fdw, e4]; repeat (first | rw [if_pos (by omega)] | rw [if_neg (by omega)])) (by rw [u2_same]; subst_vars; rw [u2_ne _ _ _ (by omega)]; omega)
              · skip
                refine hv_iload_n C 3 3 dX12_feed_56 rfl rfl ?_
                refine hv_goto C 74 dX12_feed_57 (by decide) ?_
                refine hv_istore C 7 [(7, .int (iz c9)), (0, .ref a0), (1, .int (iz a)), (2, .int (iz b)), (3, .int (iz c9)), (4, .int (iz d)), (5, .int (iz e9)), (6, .int (iz ((i : Nat) : Int)))] dX12_feed_74 (by decide) rfl ?_
                refine hv_aload_n C 0 1 dX12_feed_76 rfl rfl ?_
                refine mo_geta C K 0 1 (by decide) rfl mo_hw fl_7 rfl dX12_feed_77 ?_
                refine hv_sipush C dX12_feed_80 (by decide) ?_
                refine hv_aload_n C 0 1 dX12_feed_83 rfl rfl ?_
                refine mo_geta C K 0 1 (by decide) rfl mo_hw fl_7 rfl dX12_feed_84 ?_
                refine hv_bipush C dX12_feed_87 (by decide) ?_
                refine mo_iald C K 1 9040 10 rfl (by omega) (by omega) (by decide) dX12_feed_89 ?_
                refine hv_nm (fun x7 ex7 => ?_)
                obtain ⟨n3, rfl⟩ : ∃ n : Nat, x7 = (n : Int) := ⟨(x7).toNat, by omega⟩
                have en3 : ((n3 : Nat) : Int) = τ 1 10 := by assumption
                refine hv_iadd C dX12_feed_90 ?_
                refine hv_iload C 7 0 dX12_feed_91 rfl ?_
                refine hv_bipush C dX12_feed_93 (by decide) ?_
                refine hv_bipush C dX12_feed_95 (by decide) ?_
                refine hv_iload C 6 7 dX12_feed_97 rfl ?_
                refine hv_iconst C dX12_feed_99 ?_
                refine hv_irem C (by omega) (by omega) (by omega) (by omega) dX12_feed_100 ?_
                refine hv_imul C dX12_feed_101 ?_
                refine hv_isub C dX12_feed_102 ?_
                refine hv_ishr C (((24 - (8 * (((i : Nat) : Int) % 4))) : Int)).toNat (by omega) (by omega) (by omega) dX12_feed_103 ?_
                refine hv_sipush C dX12_feed_104 (by decide) ?_
                refine hv_imsk C 8 (by decide) (by decide) dX12_feed_107 ?_
                refine mo_iast C K 1 9040 (1760 + n3) rfl (moW_set1 _ _ _ _ _ _) (by omega) (by omega) (by decide) dX12_feed_108 ?_
                refine hv_aload_n C 0 1 dX12_feed_109 rfl rfl ?_
                refine mo_geta C K 0 1 (by decide) rfl mo_hw fl_7 rfl dX12_feed_110 ?_
                refine hv_bipush C dX12_feed_113 (by decide) ?_
                refine hv_dup2 C dX12_feed_115 rfl rfl ?_
                refine mo_iald C K 1 9040 10 rfl (by omega) (by omega) (by decide) dX12_feed_116 ?_
                refine hv_nm (fun x8 ex8 => ?_)
                refine hv_iconst C dX12_feed_117 ?_
                refine hv_iadd C dX12_feed_118 ?_
                refine mo_iast C K 1 9040 10 rfl (moW_set1 _ _ _ _ _ _) (by omega) (by omega) (by decide) dX12_feed_119 ?_
                refine hv_iinc C 6 7 [(6, .int (iz (((i : Nat) : Int) + 1))), (7, .int (iz c9)), (0, .ref a0), (1, .int (iz a)), (2, .int (iz b)), (3, .int (iz c9)), (4, .int (iz d)), (5, .int (iz e9))] dX12_feed_120 rfl (by decide) rfl ?_
                refine hv_goto C 21 dX12_feed_123 (by decide) ?_
                refine hv_loc [2, 3, 4, 5, 6, 7, 0] [(0, .ref a0), (1, .int (iz a)), (2, .int (iz b)), (3, .int (iz c9)), (4, .int (iz d)), (5, .int (iz e9)), (6, .int (iz (((i : Nat) : Int) + 1)))] rfl ?_
                exact ih21 (i + 1) (u2 (u2 τ 1 (1760 + n3) ((c9 / 2 ^ (((24 - (8 * (((i : Nat) : Int) % 4))) : Int)).toNat) % 2 ^ 8)) 1 10 (x8 + 1)) (by omega) (by omega) (by subst_vars; simp only [sA_at] at en3 h10; simp only [u2_sA, sA_sA, sA_at]; rw [ua_ne (k := 10) _ _ (by omega)]; have e4 : ((fd (σ 1) a b c9 d e9 i) 10).toNat = n3 := (by omega); simp only [fd, fdw, e4]; repeat (first | rw [if_pos (by omega)] | rw [if_neg (by omega)])) (by rw [u2_same]; subst_vars; rw [u2_ne _ _ _ (by omega)]; omega)
            · skip
              refine hv_iload_n C 2 2 dX12_feed_45 rfl rfl ?_
              refine hv_goto C 74 dX12_feed_46 (by decide) ?_
              refine hv_istore C 7 [(7, .int (iz b)), (0, .ref a0), (1, .int (iz a)), (2, .int (iz b)), (3, .int (iz c9)), (4, .int (iz d)), (5, .int (iz e9)), (6, .int (iz ((i : Nat) : Int)))] dX12_feed_74 (by decide) rfl ?_
              refine hv_aload_n C 0 1 dX12_feed_76 rfl rfl ?_
              refine mo_geta C K 0 1 (by decide) rfl mo_hw fl_7 rfl dX12_feed_77 ?_
              refine hv_sipush C dX12_feed_80 (by decide) ?_
              refine hv_aload_n C 0 1 dX12_feed_83 rfl rfl ?_
              refine mo_geta C K 0 1 (by decide) rfl mo_hw fl_7 rfl dX12_feed_84 ?_
              refine hv_bipush C dX12_feed_87 (by decide) ?_
              refine mo_iald C K 1 9040 10 rfl (by omega) (by omega) (by decide) dX12_feed_89 ?_
              refine hv_nm (fun x9 ex9 => ?_)
              obtain ⟨n3, rfl⟩ : ∃ n : Nat, x9 = (n : Int) := ⟨(x9).toNat, by omega⟩
              have en3 : ((n3 : Nat) : Int) = τ 1 10 := by assumption
              refine hv_iadd C dX12_feed_90 ?_
              refine hv_iload C 7 0 dX12_feed_91 rfl ?_
              refine hv_bipush C dX12_feed_93 (by decide) ?_
              refine hv_bipush C dX12_feed_95 (by decide) ?_
              refine hv_iload C 6 7 dX12_feed_97 rfl ?_
              refine hv_iconst C dX12_feed_99 ?_
              refine hv_irem C (by omega) (by omega) (by omega) (by omega) dX12_feed_100 ?_
              refine hv_imul C dX12_feed_101 ?_
              refine hv_isub C dX12_feed_102 ?_
              refine hv_ishr C (((24 - (8 * (((i : Nat) : Int) % 4))) : Int)).toNat (by omega) (by omega) (by omega) dX12_feed_103 ?_
              refine hv_sipush C dX12_feed_104 (by decide) ?_
              refine hv_imsk C 8 (by decide) (by decide) dX12_feed_107 ?_
              refine mo_iast C K 1 9040 (1760 + n3) rfl (moW_set1 _ _ _ _ _ _) (by omega) (by omega) (by decide) dX12_feed_108 ?_
              refine hv_aload_n C 0 1 dX12_feed_109 rfl rfl ?_
              refine mo_geta C K 0 1 (by decide) rfl mo_hw fl_7 rfl dX12_feed_110 ?_
              refine hv_bipush C dX12_feed_113 (by decide) ?_
              refine hv_dup2 C dX12_feed_115 rfl rfl ?_
              refine mo_iald C K 1 9040 10 rfl (by omega) (by omega) (by decide) dX12_feed_116 ?_
              refine hv_nm (fun x10 ex10 => ?_)
              refine hv_iconst C dX12_feed_117 ?_
              refine hv_iadd C dX12_feed_118 ?_
              refine mo_iast C K 1 9040 10 rfl (moW_set1 _ _ _ _ _ _) (by omega) (by omega) (by decide) dX12_feed_119 ?_
              refine hv_iinc C 6 7 [(6, .int (iz (((i : Nat) : Int) + 1))), (7, .int (iz b)), (0, .ref a0), (1, .int (iz a)), (2, .int (iz b)), (3, .int (iz c9)), (4, .int (iz d)), (5, .int (iz e9))] dX12_feed_120 rfl (by decide) rfl ?_
              refine hv_goto C 21 dX12_feed_123 (by decide) ?_
              refine hv_loc [2, 3, 4, 5, 6, 7, 0] [(0, .ref a0), (1, .int (iz a)), (2, .int (iz b)), (3, .int (iz c9)), (4, .int (iz d)), (5, .int (iz e9)), (6, .int (iz (((i : Nat) : Int) + 1)))] rfl ?_
              exact ih21 (i + 1) (u2 (u2 τ 1 (1760 + n3) ((b / 2 ^ (((24 - (8 * (((i : Nat) : Int) % 4))) : Int)).toNat) % 2 ^ 8)) 1 10 (x10 + 1)) (by omega) (by omega) (by subst_vars; simp only [sA_at] at en3 h10; simp only [u2_sA, sA_sA, sA_at]; rw [ua_ne (k := 10) _ _ (by omega)]; have e4 : ((fd (σ 1) a b c9 d e9 i) 10).toNat = n3 := (by omega); simp only [fd, fdw, e4]; repeat (first | rw [if_pos (by omega)] | rw [if_neg (by omega)])) (by rw [u2_same]; subst_vars; rw [u2_ne _ _ _ (by omega)]; omega)
          · skip
            refine hv_iload_n C 1 1 dX12_feed_34 rfl rfl ?_
            refine hv_goto C 74 dX12_feed_35 (by decide) ?_
            refine hv_istore C 7 [(7, .int (iz a)), (0, .ref a0), (1, .int (iz a)), (2, .int (iz b)), (3, .int (iz c9)), (4, .int (iz d)), (5, .int (iz e9)), (6, .int (iz ((i : Nat) : Int)))] dX12_feed_74 (by decide) rfl ?_
            refine hv_aload_n C 0 1 dX12_feed_76 rfl rfl ?_
            refine mo_geta C K 0 1 (by decide) rfl mo_hw fl_7 rfl dX12_feed_77 ?_
            refine hv_sipush C dX12_feed_80 (by decide) ?_
            refine hv_aload_n C 0 1 dX12_feed_83 rfl rfl ?_
            refine mo_geta C K 0 1 (by decide) rfl mo_hw fl_7 rfl dX12_feed_84 ?_
            refine hv_bipush C dX12_feed_87 (by decide) ?_
            refine mo_iald C K 1 9040 10 rfl (by omega) (by omega) (by decide) dX12_feed_89 ?_
            refine hv_nm (fun x11 ex11 => ?_)
            obtain ⟨n3, rfl⟩ : ∃ n : Nat, x11 = (n : Int) := ⟨(x11).toNat, by omega⟩
            have en3 : ((n3 : Nat) : Int) = τ 1 10 := by assumption
            refine hv_iadd C dX12_feed_90 ?_
            refine hv_iload C 7 0 dX12_feed_91 rfl ?_
            refine hv_bipush C dX12_feed_93 (by decide) ?_
            refine hv_bipush C dX12_feed_95 (by decide) ?_
            refine hv_iload C 6 7 dX12_feed_97 rfl ?_
            refine hv_iconst C dX12_feed_99 ?_
            refine hv_irem C (by omega) (by omega) (by omega) (by omega) dX12_feed_100 ?_
            refine hv_imul C dX12_feed_101 ?_
            refine hv_isub C dX12_feed_102 ?_
            refine hv_ishr C (((24 - (8 * (((i : Nat) : Int) % 4))) : Int)).toNat (by omega) (by omega) (by omega) dX12_feed_103 ?_
            refine hv_sipush C dX12_feed_104 (by decide) ?_
            refine hv_imsk C 8 (by decide) (by decide) dX12_feed_107 ?_
            refine mo_iast C K 1 9040 (1760 + n3) rfl (moW_set1 _ _ _ _ _ _) (by omega) (by omega) (by decide) dX12_feed_108 ?_
            refine hv_aload_n C 0 1 dX12_feed_109 rfl rfl ?_
            refine mo_geta C K 0 1 (by decide) rfl mo_hw fl_7 rfl dX12_feed_110 ?_
            refine hv_bipush C dX12_feed_113 (by decide) ?_
            refine hv_dup2 C dX12_feed_115 rfl rfl ?_
            refine mo_iald C K 1 9040 10 rfl (by omega) (by omega) (by decide) dX12_feed_116 ?_
            refine hv_nm (fun x12 ex12 => ?_)
            refine hv_iconst C dX12_feed_117 ?_
            refine hv_iadd C dX12_feed_118 ?_
            refine mo_iast C K 1 9040 10 rfl (moW_set1 _ _ _ _ _ _) (by omega) (by omega) (by decide) dX12_feed_119 ?_
            refine hv_iinc C 6 7 [(6, .int (iz (((i : Nat) : Int) + 1))), (7, .int (iz a)), (0, .ref a0), (1, .int (iz a)), (2, .int (iz b)), (3, .int (iz c9)), (4, .int (iz d)), (5, .int (iz e9))] dX12_feed_120 rfl (by decide) rfl ?_
            refine hv_goto C 21 dX12_feed_123 (by decide) ?_
            refine hv_loc [2, 3, 4, 5, 6, 7, 0] [(0, .ref a0), (1, .int (iz a)), (2, .int (iz b)), (3, .int (iz c9)), (4, .int (iz d)), (5, .int (iz e9)), (6, .int (iz (((i : Nat) : Int) + 1)))] rfl ?_
            exact ih21 (i + 1) (u2 (u2 τ 1 (1760 + n3) ((a / 2 ^ (((24 - (8 * (((i : Nat) : Int) % 4))) : Int)).toNat) % 2 ^ 8)) 1 10 (x12 + 1)) (by omega) (by omega) (by subst_vars; simp only [sA_at] at en3 h10; simp only [u2_sA, sA_sA, sA_at]; rw [ua_ne (k := 10) _ _ (by omega)]; have e4 : ((fd (σ 1) a b c9 d e9 i) 10).toNat = n3 := (by omega); simp only [fd, fdw, e4]; repeat (first | rw [if_pos (by omega)] | rw [if_neg (by omega)])) (by rw [u2_same]; subst_vars; rw [u2_ne _ _ _ (by omega)]; omega)
    refine hv_loc [1, 2, 3, 4, 5, 6, 0] [(0, .ref a0), (1, .int (iz a)), (2, .int (iz b)), (3, .int (iz c9)), (4, .int (iz d)), (5, .int (iz e9)), (6, .int (iz 0))] rfl ?_
    exact L21 _ 0 σ (Nat.lt_succ_self _) (by omega) (by funext x; simp only [sA, fd]; split <;> simp_all) (by omega)
  · skip
    refine hv_iconst C dX12_feed_16 ?_
    exact mo_iret (Qc := fun _ _ _ _ => True) C hr hlk (by first | exact if_p (by omega) rfl | (refine if_n (by omega) ?_; omega)) (by first | exact if_p (by omega) rfl | (refine if_n (by omega) ?_; have hq : i = 20 := (by omega); subst hq; exact hτ)) dX12_feed_17
