/-! more rows on numbers -/
theorem iz_div {x y : Int} (hx : inI x) (h0 : 0 ≤ x) (hy : 0 < y) (hy2 : y ≤ 2147483647) : iz x / iz y = iz (x / y) := by
  have h1 : x.tdiv y = x / y := Int.tdiv_eq_ediv_of_nonneg h0
  rw [← h1]
  apply Int32.toInt_inj.1
  have hne : iz y ≠ -1 := by
    intro h
    have h2 : (iz y).toInt = (iz (-1)).toInt := congrArg Int32.toInt h
    rw [iz_toInt ⟨by omega, hy2⟩, iz_toInt ⟨by omega, by omega⟩] at h2
    omega
  have h3 : 0 ≤ x.tdiv y := by rw [h1]; exact Int.ediv_nonneg h0 (by omega)
  have h4 : x.tdiv y ≤ x := by rw [h1]; exact Int.ediv_le_self y h0
  rw [Int32.toInt_div_of_ne_right _ _ hne, iz_toInt hx, iz_toInt ⟨by omega, hy2⟩, iz_toInt ⟨by omega, by omega⟩]
theorem iz_ne0 {y : Int} (hy : 0 < y) (hy2 : y ≤ 2147483647) : ¬ iz y = 0 := by
  rw [← iz_0, iz_eq ⟨by omega, hy2⟩ ⟨by omega, by omega⟩]; omega
theorem iz_rem {x y : Int} (hx : inI x) (h0 : 0 ≤ x) (hy : 0 < y) (hy2 : y ≤ 2147483647) : iz x - iz x / iz y * iz y = iz (x % y) := by
  rw [iz_div hx h0 hy hy2, iz_mul, iz_sub]
  congr 1
  have := Int.emod_add_mul_ediv x y
  rw [Int.mul_comm (x / y) y]
  omega
theorem iz_msk (x : Int) (j : Nat) (hj : j ≤ 30) : iz x &&& iz (2 ^ j - 1) = iz (x % 2 ^ j) := by
  apply Int32.toBitVec_inj.1
  rw [Int32.toBitVec_and]
  show BitVec.ofInt 32 x &&& BitVec.ofInt 32 (2 ^ j - 1) = BitVec.ofInt 32 (x % 2 ^ j)
  apply BitVec.eq_of_toNat_eq
  rw [BitVec.toNat_and, BitVec.toNat_ofInt, BitVec.toNat_ofInt, BitVec.toNat_ofInt]
  have hp : (0 : Int) < 2 ^ j := Int.pow_pos (by decide)
  have hle : (2 : Int) ^ j ≤ 1073741824 := by
    have h : 2 ^ j ≤ 2 ^ 30 := Nat.pow_le_pow_right (by decide) hj
    have h7 : ((2 ^ j : Nat) : Int) ≤ ((2 ^ 30 : Nat) : Int) := Int.ofNat_le.mpr h
    simpa using h7
  have e1 : ((2 : Int) ^ j - 1) % ((2 ^ 32 : Nat) : Int) = 2 ^ j - 1 := Int.emod_eq_of_lt (by omega) (by omega)
  have e2 : ((2 : Int) ^ j - 1).toNat = 2 ^ j - 1 := by
    have : ((2 : Int) ^ j) = ((2 ^ j : Nat) : Int) := by simp
    rw [this]; omega
  rw [e1, e2, Nat.and_two_pow_sub_one_eq_mod]
  have hr : 0 ≤ x % 2 ^ j := Int.emod_nonneg x (by omega)
  have hr2 : x % 2 ^ j < 2 ^ j := Int.emod_lt_of_pos x hp
  rw [Int.emod_eq_of_lt (a := x % 2 ^ j) hr (by omega)]
  have hq : 0 ≤ x % ((2 ^ 32 : Nat) : Int) := Int.emod_nonneg x (by decide)
  have hd : (2 : Int) ^ j ∣ ((2 ^ 32 : Nat) : Int) := by
    have : ((2 ^ 32 : Nat) : Int) = (2 : Int) ^ j * 2 ^ (32 - j) := by
      rw [← Int.pow_add]
      have : j + (32 - j) = 32 := by omega
      rw [this]; rfl
    rw [this]; exact Int.dvd_mul_right _ _
  have h5 : (x % ((2 ^ 32 : Nat) : Int)) % 2 ^ j = x % 2 ^ j := Int.emod_emod_of_dvd x hd
  apply Int.ofNat_inj.mp
  rw [Int.natCast_emod, Int.toNat_of_nonneg hq, Int.toNat_of_nonneg hr]
  rw [show ((2 ^ j : Nat) : Int) = (2 : Int) ^ j by simp]
  exact h5
theorem iz_31 : ∀ n : Nat, n < 32 → ((iz (n : Int) &&& 31).toBitVec.smod 32).toNat = n := by decide +kernel
theorem iz_shr (x : Int) (hx : inI x) (k : Nat) (hk : k < 32) : iz x >>> (iz (k : Int) &&& 31) = iz (x / 2 ^ k) := by
  apply Int32.toInt_inj.1
  have h1 : (iz x >>> (iz (k : Int) &&& 31)).toInt = ((iz x).toBitVec.sshiftRight ((iz (k : Int) &&& 31).toBitVec.smod 32).toNat).toInt := by
    show (iz x >>> (iz (k : Int) &&& 31)).toBitVec.toInt = _
    rw [Int32.toBitVec_shiftRight]
    rfl
  rw [h1, iz_31 k hk, BitVec.toInt_sshiftRight]
  show (iz x).toInt >>> k = _
  rw [iz_toInt hx, Int.shiftRight_eq_div_pow]
  have hp : (0 : Int) < 2 ^ k := Int.pow_pos (by decide)
  have e : ((2 ^ k : Nat) : Int) = (2 : Int) ^ k := by simp
  rw [e]
  have h2 : -2147483648 ≤ x / 2 ^ k := by
    have : (-2147483648 : Int) / 2 ^ k ≤ x / 2 ^ k := Int.ediv_le_ediv hp hx.1
    have h3 : (-2147483648 : Int) ≤ -2147483648 / 2 ^ k := by
      rw [Int.le_ediv_iff_mul_le hp]
      have : (1 : Int) ≤ 2 ^ k := hp
      omega
    omega
  have h4 : x / 2 ^ k ≤ 2147483647 := by
    have : x / 2 ^ k ≤ (2147483647 : Int) / 2 ^ k := Int.ediv_le_ediv hp hx.2
    have h3 : (2147483647 : Int) / 2 ^ k ≤ 2147483647 := Int.ediv_le_self _ (by decide)
    omega
  rw [iz_toInt ⟨h2, h4⟩]
theorem iz_shl1 : ∀ k : Nat, k < 31 → iz 1 <<< (iz (k : Int) &&& 31) = iz (2 ^ k) := by decide +kernel
theorem iz_andn (a b : Nat) : iz (a : Int) &&& iz (b : Int) = iz ((a &&& b : Nat) : Int) := by
  apply Int32.toBitVec_inj.1
  rw [Int32.toBitVec_and]
  show BitVec.ofInt 32 (a : Int) &&& BitVec.ofInt 32 (b : Int) = BitVec.ofInt 32 ((a &&& b : Nat) : Int)
  rw [BitVec.ofInt_natCast, BitVec.ofInt_natCast, BitVec.ofInt_natCast]
  apply BitVec.eq_of_getLsbD_eq
  intro i hi
  simp [hi]
theorem iz_orn (a b : Nat) : iz (a : Int) ||| iz (b : Int) = iz ((a ||| b : Nat) : Int) := by
  apply Int32.toBitVec_inj.1
  rw [Int32.toBitVec_or]
  show BitVec.ofInt 32 (a : Int) ||| BitVec.ofInt 32 (b : Int) = BitVec.ofInt 32 ((a ||| b : Nat) : Int)
  rw [BitVec.ofInt_natCast, BitVec.ofInt_natCast, BitVec.ofInt_natCast]
  apply BitVec.eq_of_getLsbD_eq
  intro i hi
  simp [hi]
section HV2
variable {p : Program} {l : Launch} {e : Env} {R : Room} {s : State} {m : MethodId} {args : Array Value} {below : List Frame} {meth : Method} {c : Code} {nL : Nat} {FR : Nat → Prop} {cells slots : Nat} {Q : State → Prop} {HI : Heap → Prop} {pc : Nat} {loc : List (Nat × Value)} {stk : List Value} {cc : ByteArray} {own : String}
theorem hv_nm {x : Int} (k : ∀ z : Int, z = x → hvV p l e R s m args below meth c nL FR cells slots Q HI pc loc (.int (iz z) :: stk)) : hvV p l e R s m args below meth c nL FR cells slots Q HI pc loc (.int (iz x) :: stk) := k x rfl
theorem hv_as {x : Int} (z : Int) (h : x = z) (k : hvV p l e R s m args below meth c nL FR cells slots Q HI pc loc (.int (iz z) :: stk)) : hvV p l e R s m args below meth c nL FR cells slots Q HI pc loc (.int (iz x) :: stk) := h ▸ k
theorem hv_dif_eq (C : CallFix p m c cc nL s args hk_tb own) {P : Prop} [Decidable P] {off : Int} (tgt : Nat) (d : decode cc pc = .ok (.ifCond .eq off, 3)) (ht : (pc : Int) + off = (tgt : Int)) (kt : ¬ P → hvV p l e R s m args below meth c nL FR cells slots Q HI tgt loc stk) (kf : P → hvV p l e R s m args below meth c nL FR cells slots Q HI (pc + 3) loc stk) : hvV p l e R s m args below meth c nL FR cells slots Q HI pc loc (.int (iz (xb (decide P))) :: stk) := by
  by_cases hP : P
  · rw [decide_eq_true hP]
    exact hv_if_eq C tgt d ht ⟨by decide, by decide⟩ (fun h => absurd h (by decide)) (fun _ => kf hP)
  · rw [decide_eq_false hP]
    exact hv_if_eq C tgt d ht ⟨by decide, by decide⟩ (fun _ => kt hP) (fun h => absurd rfl h)
theorem hv_dif_ne (C : CallFix p m c cc nL s args hk_tb own) {P : Prop} [Decidable P] {off : Int} (tgt : Nat) (d : decode cc pc = .ok (.ifCond .ne off, 3)) (ht : (pc : Int) + off = (tgt : Int)) (kt : P → hvV p l e R s m args below meth c nL FR cells slots Q HI tgt loc stk) (kf : ¬ P → hvV p l e R s m args below meth c nL FR cells slots Q HI (pc + 3) loc stk) : hvV p l e R s m args below meth c nL FR cells slots Q HI pc loc (.int (iz (xb (decide P))) :: stk) := by
  by_cases hP : P
  · rw [decide_eq_true hP]
    exact hv_if_ne C tgt d ht ⟨by decide, by decide⟩ (fun _ => kt hP) (fun h => absurd h (by decide))
  · rw [decide_eq_false hP]
    exact hv_if_ne C tgt d ht ⟨by decide, by decide⟩ (fun h => absurd rfl h) (fun _ => kf hP)
theorem hv_bif_eq (C : CallFix p m c cc nL s args hk_tb own) {b : Bool} {off : Int} (tgt : Nat) (d : decode cc pc = .ok (.ifCond .eq off, 3)) (ht : (pc : Int) + off = (tgt : Int)) (kt : b = false → hvV p l e R s m args below meth c nL FR cells slots Q HI tgt loc stk) (kf : b = true → hvV p l e R s m args below meth c nL FR cells slots Q HI (pc + 3) loc stk) : hvV p l e R s m args below meth c nL FR cells slots Q HI pc loc (.int (iz (xb b)) :: stk) := by
  cases b
  · exact hv_if_eq C tgt d ht ⟨by decide, by decide⟩ (fun _ => kt rfl) (fun h => absurd rfl h)
  · exact hv_if_eq C tgt d ht ⟨by decide, by decide⟩ (fun h => absurd h (by decide)) (fun _ => kf rfl)
theorem hv_bif_ne (C : CallFix p m c cc nL s args hk_tb own) {b : Bool} {off : Int} (tgt : Nat) (d : decode cc pc = .ok (.ifCond .ne off, 3)) (ht : (pc : Int) + off = (tgt : Int)) (kt : b = true → hvV p l e R s m args below meth c nL FR cells slots Q HI tgt loc stk) (kf : b = false → hvV p l e R s m args below meth c nL FR cells slots Q HI (pc + 3) loc stk) : hvV p l e R s m args below meth c nL FR cells slots Q HI pc loc (.int (iz (xb b)) :: stk) := by
  cases b
  · exact hv_if_ne C tgt d ht ⟨by decide, by decide⟩ (fun h => absurd rfl h) (fun _ => kf rfl)
  · exact hv_if_ne C tgt d ht ⟨by decide, by decide⟩ (fun _ => kt rfl) (fun h => absurd h (by decide))
theorem hv_idiv (C : CallFix p m c cc nL s args hk_tb own) {x y : Int} (hx : inI x) (h0 : 0 ≤ x) (hy : 0 < y) (hy2 : y ≤ 2147483647) (d : decode cc pc = .ok (.idiv, 1)) (k : hvV p l e R s m args below meth c nL FR cells slots Q HI (pc + 1) loc (.int (iz (x / y)) :: stk)) : hvV p l e R s m args below meth c nL FR cells slots Q HI pc loc (.int (iz y) :: .int (iz x) :: stk) := fun H locs ls h1 h2 h3 => lv_idiv C.1 C.2.1 d (iz_ne0 hy hy2) (by rw [iz_div hx h0 hy hy2]; exact k H locs ls h1 h2 h3)
theorem hv_irem (C : CallFix p m c cc nL s args hk_tb own) {x y : Int} (hx : inI x) (h0 : 0 ≤ x) (hy : 0 < y) (hy2 : y ≤ 2147483647) (d : decode cc pc = .ok (.irem, 1)) (k : hvV p l e R s m args below meth c nL FR cells slots Q HI (pc + 1) loc (.int (iz (x % y)) :: stk)) : hvV p l e R s m args below meth c nL FR cells slots Q HI pc loc (.int (iz y) :: .int (iz x) :: stk) := fun H locs ls h1 h2 h3 => lv_irem C.1 C.2.1 d (iz_ne0 hy hy2) (by rw [iz_rem hx h0 hy hy2]; exact k H locs ls h1 h2 h3)
theorem hv_imsk (C : CallFix p m c cc nL s args hk_tb own) {x y : Int} (j : Nat) (hj : j ≤ 30) (hy : y = 2 ^ j - 1) (d : decode cc pc = .ok (.iand, 1)) (k : hvV p l e R s m args below meth c nL FR cells slots Q HI (pc + 1) loc (.int (iz (x % 2 ^ j)) :: stk)) : hvV p l e R s m args below meth c nL FR cells slots Q HI pc loc (.int (iz y) :: .int (iz x) :: stk) := fun H locs ls h1 h2 h3 => lv_iand C.1 C.2.1 d (by rw [hy, iz_msk x j hj]; exact k H locs ls h1 h2 h3)
theorem hv_ishr (C : CallFix p m c cc nL s args hk_tb own) {x y : Int} (j : Nat) (hx : inI x) (hy : y = (j : Int)) (hj : j < 32) (d : decode cc pc = .ok (.ishr, 1)) (k : hvV p l e R s m args below meth c nL FR cells slots Q HI (pc + 1) loc (.int (iz (x / 2 ^ j)) :: stk)) : hvV p l e R s m args below meth c nL FR cells slots Q HI pc loc (.int (iz y) :: .int (iz x) :: stk) := fun H locs ls h1 h2 h3 => lv_ishr C.1 C.2.1 d (by rw [hy, iz_shr x hx j hj]; exact k H locs ls h1 h2 h3)
theorem hv_ishl1 (C : CallFix p m c cc nL s args hk_tb own) {y : Int} (j : Nat) (hy : y = (j : Int)) (hj : j < 31) (d : decode cc pc = .ok (.ishl, 1)) (k : hvV p l e R s m args below meth c nL FR cells slots Q HI (pc + 1) loc (.int (iz (2 ^ j)) :: stk)) : hvV p l e R s m args below meth c nL FR cells slots Q HI pc loc (.int (iz y) :: .int (iz 1) :: stk) := fun H locs ls h1 h2 h3 => lv_ishl C.1 C.2.1 d (by rw [hy, iz_shl1 j hj]; exact k H locs ls h1 h2 h3)
theorem hv_iandn (C : CallFix p m c cc nL s args hk_tb own) {x y : Int} (a b : Nat) (hx : x = (a : Int)) (hy : y = (b : Int)) (d : decode cc pc = .ok (.iand, 1)) (k : hvV p l e R s m args below meth c nL FR cells slots Q HI (pc + 1) loc (.int (iz ((a &&& b : Nat) : Int)) :: stk)) : hvV p l e R s m args below meth c nL FR cells slots Q HI pc loc (.int (iz y) :: .int (iz x) :: stk) := fun H locs ls h1 h2 h3 => lv_iand C.1 C.2.1 d (by rw [hx, hy, iz_andn]; exact k H locs ls h1 h2 h3)
theorem hv_iorn (C : CallFix p m c cc nL s args hk_tb own) {x y : Int} (a b : Nat) (hx : x = (a : Int)) (hy : y = (b : Int)) (d : decode cc pc = .ok (.ior, 1)) (k : hvV p l e R s m args below meth c nL FR cells slots Q HI (pc + 1) loc (.int (iz ((a ||| b : Nat) : Int)) :: stk)) : hvV p l e R s m args below meth c nL FR cells slots Q HI pc loc (.int (iz y) :: .int (iz x) :: stk) := fun H locs ls h1 h2 h3 => lv_ior C.1 C.2.1 d (by rw [hx, hy, iz_orn]; exact k H locs ls h1 h2 h3)
end HV2
section HV3
variable {p : Program} {l : Launch} {e : Env} {R : Room} {s : State} {m : MethodId} {args : Array Value} {below : List Frame} {meth : Method} {c : Code} {nL : Nat} {FR : Nat → Prop} {cells slots : Nat} {Q : State → Prop} {HI : Heap → Prop} {pc : Nat} {loc : List (Nat × Value)} {stk : List Value} {cc : ByteArray} {own : String}
theorem hv_tableIn (C : CallFix p m c cc nL s args hk_tb own) {x : Int} {dflt lo hi : Int} {offs : Array Int} {len : Nat} {off : Int} (tgt : Nat) (hx : inI x) (d : decode cc pc = .ok (.tableswitch dflt lo hi offs, len)) (h1 : ¬ x < lo) (h2 : ¬ hi < x) (ho : offs[(x - lo).toNat]? = some off) (ht : (pc : Int) + off = (tgt : Int)) (k : hvV p l e R s m args below meth c nL FR cells slots Q HI tgt loc stk) : hvV p l e R s m args below meth c nL FR cells slots Q HI pc loc (.int (iz x) :: stk) := fun H locs ls g1 g2 g3 => lv_tableIn C.1 C.2.1 d (by rw [iz_toInt hx]; exact h1) (by rw [iz_toInt hx]; exact h2) (by rw [iz_toInt hx]; exact ho) ht (k H locs ls g1 g2 g3)
theorem hv_tableOut (C : CallFix p m c cc nL s args hk_tb own) {x : Int} {dflt lo hi : Int} {offs : Array Int} {len : Nat} (tgt : Nat) (hx : inI x) (d : decode cc pc = .ok (.tableswitch dflt lo hi offs, len)) (h : x < lo ∨ hi < x) (ht : (pc : Int) + dflt = (tgt : Int)) (k : hvV p l e R s m args below meth c nL FR cells slots Q HI tgt loc stk) : hvV p l e R s m args below meth c nL FR cells slots Q HI pc loc (.int (iz x) :: stk) := fun H locs ls g1 g2 g3 => lv_tableOut C.1 C.2.1 d (by rw [iz_toInt hx]; exact h) ht (k H locs ls g1 g2 g3)
end HV3
theorem p2_le (n m : Nat) (h : n ≤ m) : (0 : Int) < 2 ^ n ∧ (2 : Int) ^ n ≤ 2 ^ m := by
  refine ⟨Int.pow_pos (by decide), ?_⟩
  have h1 : 2 ^ n ≤ 2 ^ m := Nat.pow_le_pow_right (by decide) h
  have h2 : ((2 ^ n : Nat) : Int) ≤ ((2 ^ m : Nat) : Int) := Int.ofNat_le.mpr h1
  simpa using h2
