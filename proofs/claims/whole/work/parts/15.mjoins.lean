/-! bits of small numbers -/
theorem iz_not (x : Int) : iz x ^^^ iz (-1) = iz (-x - 1) := by
  apply Int32.toBitVec_inj.1
  rw [Int32.toBitVec_xor]
  show BitVec.ofInt 32 x ^^^ BitVec.ofInt 32 (-1) = BitVec.ofInt 32 (-x - 1)
  have e1 : BitVec.ofInt 32 (-1) = BitVec.allOnes 32 := by decide
  have e2 : BitVec.ofInt 32 (-x - 1) = -(BitVec.ofInt 32 x) - 1 := by
    rw [← BitVec.ofInt_neg]
    apply BitVec.eq_of_toInt_eq
    simp [BitVec.toInt_sub]
  rw [e1, BitVec.xor_allOnes, e2, BitVec.neg_eq_not_add]
  exact (BitVec.add_sub_cancel _ _).symm
theorem iz_andnot (a b : Nat) (ha : a < 4096) (hb : b < 4096) : iz (a : Int) &&& iz (-(b : Int) - 1) = iz ((a &&& (4095 ^^^ b) : Nat) : Int) := by
  rw [← iz_not]
  apply Int32.toBitVec_inj.1
  rw [Int32.toBitVec_and, Int32.toBitVec_xor]
  show BitVec.ofInt 32 (a : Int) &&& (BitVec.ofInt 32 (b : Int) ^^^ BitVec.ofInt 32 (-1)) = BitVec.ofInt 32 ((a &&& (4095 ^^^ b) : Nat) : Int)
  have e1 : BitVec.ofInt 32 (-1) = BitVec.allOnes 32 := by decide
  rw [e1, BitVec.ofInt_natCast, BitVec.ofInt_natCast, BitVec.ofInt_natCast]
  apply BitVec.eq_of_getLsbD_eq
  intro i hi
  simp only [BitVec.getLsbD_and, BitVec.getLsbD_xor, BitVec.getLsbD_ofNat, BitVec.getLsbD_allOnes, hi, decide_true, Bool.true_and, Nat.testBit_and, Nat.testBit_xor]
  by_cases h : i < 12
  · have h4 : Nat.testBit 4095 i = true := (by decide +kernel : ∀ i, i < 12 → Nat.testBit 4095 i = true) i h
    rw [h4, Bool.xor_comm]
  · have h5 : Nat.testBit a i = false := Nat.testBit_lt_two_pow (Nat.lt_of_lt_of_le ha (Nat.pow_le_pow_right (by decide) (by omega : 12 ≤ i) : 2 ^ 12 ≤ 2 ^ i))
    rw [h5]; simp
theorem iz_low : ∀ a : Nat, a < 256 → iz (a : Int) &&& iz (-(a : Int)) = iz ((a &&& (4096 - a) : Nat) : Int) := by decide +kernel
section HV5
variable {p : Program} {l : Launch} {e : Env} {R : Room} {s : State} {m : MethodId} {args : Array Value} {below : List Frame} {meth : Method} {c : Code} {nL : Nat} {FR : Nat → Prop} {cells slots : Nat} {Q : State → Prop} {HI : Heap → Prop} {pc : Nat} {loc : List (Nat × Value)} {stk : List Value} {cc : ByteArray} {own : String}
theorem hv_inot (C : CallFix p m c cc nL s args hk_tb own) {x : Int} (d : decode cc pc = .ok (.ixor, 1)) (k : hvV p l e R s m args below meth c nL FR cells slots Q HI (pc + 1) loc (.int (iz (-x - 1)) :: stk)) : hvV p l e R s m args below meth c nL FR cells slots Q HI pc loc (.int (iz (-1)) :: .int (iz x) :: stk) := fun H locs ls h1 h2 h3 => lv_ixor C.1 C.2.1 d (by rw [iz_not]; exact k H locs ls h1 h2 h3)
theorem hv_iandnot (C : CallFix p m c cc nL s args hk_tb own) {x y : Int} (a b : Nat) (hx : x = (a : Int)) (hy : y = -(b : Int) - 1) (ha : a < 4096) (hb : b < 4096) (d : decode cc pc = .ok (.iand, 1)) (k : hvV p l e R s m args below meth c nL FR cells slots Q HI (pc + 1) loc (.int (iz ((a &&& (4095 ^^^ b) : Nat) : Int)) :: stk)) : hvV p l e R s m args below meth c nL FR cells slots Q HI pc loc (.int (iz y) :: .int (iz x) :: stk) := fun H locs ls h1 h2 h3 => lv_iand C.1 C.2.1 d (by rw [hx, hy, iz_andnot a b ha hb]; exact k H locs ls h1 h2 h3)
theorem hv_ilow (C : CallFix p m c cc nL s args hk_tb own) {x y : Int} (a : Nat) (hx : x = (a : Int)) (hy : y = -(a : Int)) (ha : a < 256) (d : decode cc pc = .ok (.iand, 1)) (k : hvV p l e R s m args below meth c nL FR cells slots Q HI (pc + 1) loc (.int (iz ((a &&& (4096 - a) : Nat) : Int)) :: stk)) : hvV p l e R s m args below meth c nL FR cells slots Q HI pc loc (.int (iz y) :: .int (iz x) :: stk) := fun H locs ls h1 h2 h3 => lv_iand C.1 C.2.1 d (by rw [hx, hy, iz_low a ha]; exact k H locs ls h1 h2 h3)
end HV5
/-- what the wires hold -/
def wi (A : Nat → Int) : Prop := ∀ w : Nat, (w : Int) < A 1 → (0 ≤ A (30 + 4 * w + 0) ∧ A (30 + 4 * w + 0) ≤ A 0 - 1) ∧ (0 ≤ A (30 + 4 * w + 1) ∧ A (30 + 4 * w + 1) ≤ A 0 - 1) ∧ (1 ≤ A (30 + 4 * w + 2) ∧ A (30 + 4 * w + 2) ≤ 999) ∧ (1 ≤ A (30 + 4 * w + 3) ∧ A (30 + 4 * w + 3) ≤ 3)
def wb (A : Nat → Int) (w : Nat) : Nat := 2 ^ (A (30 + 4 * w + 0)).toNat ||| 2 ^ (A (30 + 4 * w + 1)).toNat
theorem wb_lt {A : Nat → Int} (hc : cn A) (hw : wi A) {w : Nat} (h : (w : Int) < A 1) : wb A w < 256 := by
  have a1 := hw w h
  exact Nat.or_lt_two_pow (n := 8) (Nat.pow_lt_pow_right (by decide) (by omega)) (Nat.pow_lt_pow_right (by decide) (by omega))
/-- one sweep over the wires of a set: what is met grows -/
def jw (A : Nat → Int) (set : Int) : Nat → Nat → Nat
  | 0, x => x
  | w + 1, x => if set / 2 ^ w % 2 ^ 1 = 0 then jw A set w x else if (jw A set w x &&& wb A w) = 0 then jw A set w x else jw A set w x ||| wb A w
theorem jw_le (A : Nat → Int) (set : Int) : ∀ (w x : Nat), x ≤ jw A set w x
  | 0, x => Nat.le_refl x
  | w + 1, x => by
    have := jw_le A set w x
    unfold jw
    repeat' split
    · exact this
    · exact this
    · exact Nat.le_trans this Nat.left_le_or
theorem jw_lt {A : Nat → Int} (hc : cn A) (hw : wi A) (set : Int) {x : Nat} (hx : x < 256) : ∀ w : Nat, (w : Int) ≤ A 1 → jw A set w x < 256
  | 0, _ => hx
  | w + 1, h => by
    have i1 := jw_lt hc hw set hx w (by omega)
    unfold jw
    repeat' split
    · exact i1
    · exact i1
    · exact Nat.or_lt_two_pow (n := 8) i1 (wb_lt hc hw (by omega))
def jn (A : Nat → Int) (set : Int) : Nat → Nat → Nat
  | 0, x => x
  | f + 1, x => if jw A set (A 1).toNat x = x then x else jn A set f (jw A set (A 1).toNat x)
def jo (A : Nat → Int) (set : Int) (towns : Nat) : Bool := decide ((towns &&& (4095 ^^^ jn A set 256 (towns &&& (4096 - towns)))) = 0)
theorem low_le : ∀ a : Nat, a < 256 → (a &&& (4096 - a)) < 256 := by decide +kernel
theorem nat_or_cast (a b : Nat) : (a : Int) = (b : Int) ↔ a = b := by omega

theorem dX12_joins_0 : decode cX12_joins 0 = .ok (.iload_n 2, 1) := by decide +kernel
theorem dX12_joins_1 : decode cX12_joins 1 = .ok (.iload_n 2, 1) := by decide +kernel
theorem dX12_joins_2 : decode cX12_joins 2 = .ok (.ineg, 1) := by decide +kernel
theorem dX12_joins_3 : decode cX12_joins 3 = .ok (.iand, 1) := by decide +kernel
theorem dX12_joins_4 : decode cX12_joins 4 = .ok (.istore_n 3, 1) := by decide +kernel
theorem dX12_joins_5 : decode cX12_joins 5 = .ok (.iconst 1, 1) := by decide +kernel
theorem dX12_joins_6 : decode cX12_joins 6 = .ok (.istore 4, 2) := by decide +kernel
theorem dX12_joins_8 : decode cX12_joins 8 = .ok (.iload 4, 2) := by decide +kernel
theorem dX12_joins_10 : decode cX12_joins 10 = .ok (.ifCond .eq 87, 3) := by decide +kernel
theorem dX12_joins_13 : decode cX12_joins 13 = .ok (.iload_n 3, 1) := by decide +kernel
theorem dX12_joins_14 : decode cX12_joins 14 = .ok (.istore 5, 2) := by decide +kernel
theorem dX12_joins_16 : decode cX12_joins 16 = .ok (.iconst 0, 1) := by decide +kernel
theorem dX12_joins_17 : decode cX12_joins 17 = .ok (.istore 6, 2) := by decide +kernel
theorem dX12_joins_19 : decode cX12_joins 19 = .ok (.iload 6, 2) := by decide +kernel
theorem dX12_joins_21 : decode cX12_joins 21 = .ok (.aload_n 0, 1) := by decide +kernel
theorem dX12_joins_22 : decode cX12_joins 22 = .ok (.getfield 7, 3) := by decide +kernel
theorem dX12_joins_25 : decode cX12_joins 25 = .ok (.iconst 1, 1) := by decide +kernel
theorem dX12_joins_26 : decode cX12_joins 26 = .ok (.iaload, 1) := by decide +kernel
theorem dX12_joins_27 : decode cX12_joins 27 = .ok (.if_icmp .ge 54, 3) := by decide +kernel
theorem dX12_joins_30 : decode cX12_joins 30 = .ok (.iload_n 1, 1) := by decide +kernel
theorem dX12_joins_31 : decode cX12_joins 31 = .ok (.iload 6, 2) := by decide +kernel
theorem dX12_joins_33 : decode cX12_joins 33 = .ok (.ishr, 1) := by decide +kernel
theorem dX12_joins_34 : decode cX12_joins 34 = .ok (.iconst 1, 1) := by decide +kernel
theorem dX12_joins_35 : decode cX12_joins 35 = .ok (.iand, 1) := by decide +kernel
theorem dX12_joins_36 : decode cX12_joins 36 = .ok (.ifCond .ne 6, 3) := by decide +kernel
theorem dX12_joins_39 : decode cX12_joins 39 = .ok (.goto 36, 3) := by decide +kernel
theorem dX12_joins_42 : decode cX12_joins 42 = .ok (.iconst 1, 1) := by decide +kernel
theorem dX12_joins_43 : decode cX12_joins 43 = .ok (.aload_n 0, 1) := by decide +kernel
theorem dX12_joins_44 : decode cX12_joins 44 = .ok (.iload 6, 2) := by decide +kernel
theorem dX12_joins_46 : decode cX12_joins 46 = .ok (.iconst 0, 1) := by decide +kernel
theorem dX12_joins_47 : decode cX12_joins 47 = .ok (.invokevirtual 237, 3) := by decide +kernel
theorem dX12_joins_50 : decode cX12_joins 50 = .ok (.ishl, 1) := by decide +kernel
theorem dX12_joins_51 : decode cX12_joins 51 = .ok (.iconst 1, 1) := by decide +kernel
theorem dX12_joins_52 : decode cX12_joins 52 = .ok (.aload_n 0, 1) := by decide +kernel
theorem dX12_joins_53 : decode cX12_joins 53 = .ok (.iload 6, 2) := by decide +kernel
theorem dX12_joins_55 : decode cX12_joins 55 = .ok (.iconst 1, 1) := by decide +kernel
theorem dX12_joins_56 : decode cX12_joins 56 = .ok (.invokevirtual 237, 3) := by decide +kernel
theorem dX12_joins_59 : decode cX12_joins 59 = .ok (.ishl, 1) := by decide +kernel
theorem dX12_joins_60 : decode cX12_joins 60 = .ok (.ior, 1) := by decide +kernel
theorem dX12_joins_61 : decode cX12_joins 61 = .ok (.istore 7, 2) := by decide +kernel
theorem dX12_joins_63 : decode cX12_joins 63 = .ok (.iload_n 3, 1) := by decide +kernel
theorem dX12_joins_64 : decode cX12_joins 64 = .ok (.iload 7, 2) := by decide +kernel
theorem dX12_joins_66 : decode cX12_joins 66 = .ok (.iand, 1) := by decide +kernel
theorem dX12_joins_67 : decode cX12_joins 67 = .ok (.ifCond .eq 8, 3) := by decide +kernel
theorem dX12_joins_70 : decode cX12_joins 70 = .ok (.iload_n 3, 1) := by decide +kernel
theorem dX12_joins_71 : decode cX12_joins 71 = .ok (.iload 7, 2) := by decide +kernel
theorem dX12_joins_73 : decode cX12_joins 73 = .ok (.ior, 1) := by decide +kernel
theorem dX12_joins_74 : decode cX12_joins 74 = .ok (.istore_n 3, 1) := by decide +kernel
theorem dX12_joins_75 : decode cX12_joins 75 = .ok (.iinc 6 1, 3) := by decide +kernel
theorem dX12_joins_78 : decode cX12_joins 78 = .ok (.goto (-59), 3) := by decide +kernel
theorem dX12_joins_81 : decode cX12_joins 81 = .ok (.iload_n 3, 1) := by decide +kernel
theorem dX12_joins_82 : decode cX12_joins 82 = .ok (.iload 5, 2) := by decide +kernel
theorem dX12_joins_84 : decode cX12_joins 84 = .ok (.if_icmp .eq 7, 3) := by decide +kernel
theorem dX12_joins_87 : decode cX12_joins 87 = .ok (.iconst 1, 1) := by decide +kernel
theorem dX12_joins_88 : decode cX12_joins 88 = .ok (.goto 4, 3) := by decide +kernel
theorem dX12_joins_91 : decode cX12_joins 91 = .ok (.iconst 0, 1) := by decide +kernel
theorem dX12_joins_92 : decode cX12_joins 92 = .ok (.istore 4, 2) := by decide +kernel
theorem dX12_joins_94 : decode cX12_joins 94 = .ok (.goto (-86), 3) := by decide +kernel
theorem dX12_joins_97 : decode cX12_joins 97 = .ok (.iload_n 2, 1) := by decide +kernel
theorem dX12_joins_98 : decode cX12_joins 98 = .ok (.iload_n 3, 1) := by decide +kernel
theorem dX12_joins_99 : decode cX12_joins 99 = .ok (.iconst (-1), 1) := by decide +kernel
theorem dX12_joins_100 : decode cX12_joins 100 = .ok (.ixor, 1) := by decide +kernel
theorem dX12_joins_101 : decode cX12_joins 101 = .ok (.iand, 1) := by decide +kernel
theorem dX12_joins_102 : decode cX12_joins 102 = .ok (.ifCond .ne 7, 3) := by decide +kernel
theorem dX12_joins_105 : decode cX12_joins 105 = .ok (.iconst 1, 1) := by decide +kernel
theorem dX12_joins_106 : decode cX12_joins 106 = .ok (.goto 4, 3) := by decide +kernel
theorem dX12_joins_109 : decode cX12_joins 109 = .ok (.iconst 0, 1) := by decide +kernel
theorem dX12_joins_110 : decode cX12_joins 110 = .ok (.ireturn, 1) := by decide +kernel
set_option maxRecDepth 100000 in
set_option maxHeartbeats 4000000 in
theorem k_joins (l : Launch) {D : va_G} {cI cZ : ClassId} {a0 : Nat} (σ : Nat → Nat → Int) (set : Int) (towns : Nat) (hσ : rg σ) (hc : cn (σ 1)) (hwi : wi (σ 1)) (r_set : 0 ≤ set ∧ set ≤ 4095) (r_t : towns < 256) : moM l D cI cZ a0 yX12_joins cX12_joins 8 (some .boolean) 1 22 [.ref a0, .int (iz set), .int (iz ((towns : Nat) : Int))] σ (some (.int (iz (xb (jo (σ 1) set towns))))) (σ) := by
  refine mo_start (by decide) rfl (Nat.le_of_ble_eq_true rfl) ?_
  intro p e s m args below meth c C K hr hlk
  refine hv_iload_n C 2 2 dX12_joins_0 rfl rfl ?_
  refine hv_iload_n C 2 2 dX12_joins_1 rfl rfl ?_
  refine hv_ineg C dX12_joins_2 ?_
  refine hv_ilow C towns rfl rfl (by omega) dX12_joins_3 ?_
  have hlow := low_le towns r_t
  refine hv_istore_n C 3 [(3, .int (iz ((towns &&& (4096 - towns) : Nat) : Int))), (0, .ref a0), (1, .int (iz set)), (2, .int (iz ((towns : Nat) : Int)))] dX12_joins_4 rfl (by decide) rfl ?_
  refine hv_iconst C dX12_joins_5 ?_
  refine hv_istore C 4 [(4, .int (iz 1)), (3, .int (iz ((towns &&& (4096 - towns) : Nat) : Int))), (0, .ref a0), (1, .int (iz set)), (2, .int (iz ((towns : Nat) : Int)))] dX12_joins_6 (by decide) rfl ?_
  have L8 : ∀ (f : Nat) (met : Nat) (grows : Bool) (g : Nat), (if grows = true then 1 else 0) + 2 * (256 - met) < f → met < 256 → (grows = true → 256 ≤ g + met) → (grows = true → jn (σ 1) set g met = jn (σ 1) set 256 (towns &&& (4096 - towns))) ∧ (grows = false → met = jn (σ 1) set 256 (towns &&& (4096 - towns))) → hvV p l e { frames := 1, cells := 0, slots := 0, locals := 22 } s m args below meth c 8 (moR a0) 0 0 (MQ below (moQ D cI cZ a0 (some (.int (iz (xb (jo (σ 1) set towns))))) (σ)) args s 0 0 (moR a0)) (moI D cI cZ a0 s.heap σ) 8 [(0, .ref a0), (1, .int (iz set)), (2, .int (iz ((towns : Nat) : Int))), (3, .int (iz ((met : Nat) : Int))), (4, .int (iz (xb (grows))))] [] := by
    intro f
    induction f with
    | zero => intro _ _ _ hm; exact absurd hm (Nat.not_lt_zero _)
    | succ f ih8 =>
      intro met grows g hm8 hmm hg hr9
      refine hv_iload C 4 4 dX12_joins_8 rfl ?_
      refine hv_bif_eq C 97 dX12_joins_10 (by decide)  (fun h10 => ?_) (fun h10 => ?_)
      · skip
        refine hv_iload_n C 2 2 dX12_joins_97 rfl rfl ?_
        refine hv_iload_n C 3 3 dX12_joins_98 rfl rfl ?_
        refine hv_iconst C dX12_joins_99 ?_
        refine hv_inot C dX12_joins_100 ?_
        refine hv_iandnot C towns met rfl rfl (by omega) (by omega) dX12_joins_101 ?_
        have na101 : (towns &&& (4095 ^^^ met)) ≤ towns := Nat.and_le_left
        refine hv_if_ne C 109 dX12_joins_102 (by decide) (by omega) (fun h102 => ?_) (fun h102 => ?_)
        · skip
          refine hv_iconst C dX12_joins_109 ?_
          exact mo_zret (Qc := fun _ _ _ _ => True) C hr hlk ((xb_f (by unfold jo; rw [← hr9.2 h10]; first | exact decide_eq_true (by omega) | exact decide_eq_false (by omega))).symm) rfl dX12_joins_110
        · skip
          refine hv_iconst C dX12_joins_105 ?_
          refine hv_goto C 110 dX12_joins_106 (by decide) ?_
          exact mo_zret (Qc := fun _ _ _ _ => True) C hr hlk ((xb_t (by unfold jo; rw [← hr9.2 h10]; first | exact decide_eq_true (by omega) | exact decide_eq_false (by omega))).symm) rfl dX12_joins_110
      · skip
        refine hv_iload_n C 3 3 dX12_joins_13 rfl rfl ?_
        refine hv_istore C 5 [(5, .int (iz ((met : Nat) : Int))), (0, .ref a0), (1, .int (iz set)), (2, .int (iz ((towns : Nat) : Int))), (3, .int (iz ((met : Nat) : Int))), (4, .int (iz (xb (grows))))] dX12_joins_14 (by decide) rfl ?_
        refine hv_iconst C dX12_joins_16 ?_
        refine hv_istore C 6 [(6, .int (iz 0)), (5, .int (iz ((met : Nat) : Int))), (0, .ref a0), (1, .int (iz set)), (2, .int (iz ((towns : Nat) : Int))), (3, .int (iz ((met : Nat) : Int))), (4, .int (iz (xb (grows))))] dX12_joins_17 (by decide) rfl ?_
        have L19 : ∀ (f : Nat) (w : Nat) (x : Nat), (σ 1 1).toNat - w < f → (w : Int) ≤ σ 1 1 → x = jw (σ 1) set w met → hvV p l e { frames := 1, cells := 0, slots := 0, locals := 22 } s m args below meth c 8 (moR a0) 0 0 (MQ below (moQ D cI cZ a0 (some (.int (iz (xb (jo (σ 1) set towns))))) (σ)) args s 0 0 (moR a0)) (moI D cI cZ a0 s.heap σ) 19 [(0, .ref a0), (1, .int (iz set)), (2, .int (iz ((towns : Nat) : Int))), (3, .int (iz ((x : Nat) : Int))), (4, .int (iz (xb (grows)))), (5, .int (iz ((met : Nat) : Int))), (6, .int (iz ((w : Nat) : Int)))] [] := by
          intro f
          induction f with
          | zero => intro _ _ hm; exact absurd hm (Nat.not_lt_zero _)
          | succ f ih19 =>
            intro w x hm19 hw0 hx9
            have b9 := jw_lt hc hwi set hmm w (by omega)
            rw [← hx9] at b9
            refine hv_iload C 6 6 dX12_joins_19 rfl ?_
            refine hv_aload_n C 0 0 dX12_joins_21 rfl rfl ?_
            refine mo_geta C K 0 1 (by decide) rfl mo_hw fl_7 rfl dX12_joins_22 ?_
            refine hv_iconst C dX12_joins_25 ?_
            refine mo_iald C K 1 9040 1 rfl (by omega) (by omega) (by decide) dX12_joins_26 ?_
            refine hv_nm (fun x1 ex1 => ?_)
            have rx1 : inI x1 := by rw [ex1]; exact hσ 1 1
            refine hv_icmp_ge C 81 dX12_joins_27 (by decide) (by omega) (by omega) (fun h27 => ?_) (fun h27 => ?_)
            · skip
              have e81 : (σ 1 1).toNat = w := by omega
              have hle9 := jw_le (σ 1) set w met
              refine hv_iload_n C 3 3 dX12_joins_81 rfl rfl ?_
              refine hv_iload C 5 5 dX12_joins_82 rfl ?_
              refine hv_icmp_eq C 91 dX12_joins_84 (by decide) (by omega) (by omega) (fun h84 => ?_) (fun h84 => ?_)
              · skip
                refine hv_iconst C dX12_joins_91 ?_
                refine hv_istore C 4 [(4, .int (iz 0)), (0, .ref a0), (1, .int (iz set)), (2, .int (iz ((towns : Nat) : Int))), (3, .int (iz ((x : Nat) : Int))), (5, .int (iz ((met : Nat) : Int))), (6, .int (iz ((w : Nat) : Int)))] dX12_joins_92 (by decide) rfl ?_
                refine hv_goto C 8 dX12_joins_94 (by decide) ?_
                refine hv_loc [1, 2, 3, 4, 0] [(0, .ref a0), (1, .int (iz set)), (2, .int (iz ((towns : Nat) : Int))), (3, .int (iz ((x : Nat) : Int))), (4, .int (iz 0))] rfl ?_
                exact ih8 x false (g - 1) (by rw [h10] at hm8; simp at hm8 ⊢; omega) (by omega) (fun h => by first | exact absurd h (by decide) | (have h8 := hg h10; omega)) ⟨fun h => by first | exact absurd h (by decide) | (have h7 := hr9.1 h10; have h8 := hg h10; obtain ⟨g1, rfl⟩ : ∃ n, g = n + 1 := ⟨g - 1, by omega⟩; rw [jn, e81, ← hx9, if_neg (by omega)] at h7; exact h7), fun h => by first | exact absurd h (by decide) | (have h7 := hr9.1 h10; have h8 := hg h10; obtain ⟨g1, rfl⟩ : ∃ n, g = n + 1 := ⟨g - 1, by omega⟩; rw [jn, e81, ← hx9, if_pos (by omega)] at h7; omega)⟩
              · skip
                refine hv_iconst C dX12_joins_87 ?_
                refine hv_goto C 92 dX12_joins_88 (by decide) ?_
                refine hv_istore C 4 [(4, .int (iz 1)), (0, .ref a0), (1, .int (iz set)), (2, .int (iz ((towns : Nat) : Int))), (3, .int (iz ((x : Nat) : Int))), (5, .int (iz ((met : Nat) : Int))), (6, .int (iz ((w : Nat) : Int)))] dX12_joins_92 (by decide) rfl ?_
                refine hv_goto C 8 dX12_joins_94 (by decide) ?_
                refine hv_loc [1, 2, 3, 4, 0] [(0, .ref a0), (1, .int (iz set)), (2, .int (iz ((towns : Nat) : Int))), (3, .int (iz ((x : Nat) : Int))), (4, .int (iz 1))] rfl ?_
                exact ih8 x true (g - 1) (by rw [h10] at hm8; simp at hm8 ⊢; omega) (by omega) (fun h => by first | exact absurd h (by decide) | (have h8 := hg h10; omega)) ⟨fun h => by first | exact absurd h (by decide) | (have h7 := hr9.1 h10; have h8 := hg h10; obtain ⟨g1, rfl⟩ : ∃ n, g = n + 1 := ⟨g - 1, by omega⟩; rw [jn, e81, ← hx9, if_neg (by omega)] at h7; exact h7), fun h => by first | exact absurd h (by decide) | (have h7 := hr9.1 h10; have h8 := hg h10; obtain ⟨g1, rfl⟩ : ∃ n, g = n + 1 := ⟨g - 1, by omega⟩; rw [jn, e81, ← hx9, if_pos (by omega)] at h7; omega)⟩
            · skip
              refine hv_iload_n C 1 1 dX12_joins_30 rfl rfl ?_
              refine hv_iload C 6 6 dX12_joins_31 rfl ?_
              refine hv_ishr C w (by omega) (by omega) (by omega) dX12_joins_33 ?_
              refine hv_iconst C dX12_joins_34 ?_
              refine hv_imsk C 1 (by decide) (by decide) dX12_joins_35 ?_
              refine hv_if_ne C 42 dX12_joins_36 (by decide) (by omega) (fun h36 => ?_) (fun h36 => ?_)
              · skip
                have a1 := hwi w (by omega)
                refine hv_iconst C dX12_joins_42 ?_
                refine hv_aload_n C 0 0 dX12_joins_43 rfl rfl ?_
                refine hv_iload C 6 6 dX12_joins_44 rfl ?_
                refine hv_iconst C dX12_joins_46 ?_
                refine mo_call [.int (iz ((w : Nat) : Int)), .int (iz 0)] [.int (iz 1)] C K (k_wireOf l σ w 0 (by omega) (by omega)) ck_wireOf (by decide) rfl (Nat.le_of_ble_eq_true rfl) dX12_joins_47 ?_
                refine hv_nm (fun x2 ex2 => ?_)
                have rx2 : inI x2 := by rw [ex2]; exact hσ _ _
                obtain ⟨na, rfl⟩ : ∃ n : Nat, x2 = (n : Int) := ⟨(x2).toNat, by omega⟩
                refine hv_ishl1 C na (by omega) (by omega) dX12_joins_50 ?_
                refine hv_iconst C dX12_joins_51 ?_
                refine hv_aload_n C 0 0 dX12_joins_52 rfl rfl ?_
                refine hv_iload C 6 6 dX12_joins_53 rfl ?_
                refine hv_iconst C dX12_joins_55 ?_
                refine mo_call [.int (iz ((w : Nat) : Int)), .int (iz 1)] [.int (iz 1), .int (iz ((2 : Int) ^ na))] C K (k_wireOf l σ w 1 (by omega) (by omega)) ck_wireOf (by decide) rfl (Nat.le_of_ble_eq_true rfl) dX12_joins_56 ?_
                refine hv_nm (fun x3 ex3 => ?_)
                have rx3 : inI x3 := by rw [ex3]; exact hσ _ _
                obtain ⟨nb, rfl⟩ : ∃ n : Nat, x3 = (n : Int) := ⟨(x3).toNat, by omega⟩
                have ewb : wb (σ 1) w = 2 ^ na ||| 2 ^ nb := by unfold wb; rw [show (σ 1 (30 + 4 * w + 0)).toNat = na by omega, show (σ 1 (30 + 4 * w + 1)).toNat = nb by omega]
                refine hv_ishl1 C nb (by omega) (by omega) dX12_joins_59 ?_
                refine hv_iorn C (2 ^ na) (2 ^ nb) (by simp) (by simp) dX12_joins_60 ?_
                refine hv_istore C 7 [(7, .int (iz (((2 ^ na) ||| (2 ^ nb) : Nat) : Int))), (0, .ref a0), (1, .int (iz set)), (2, .int (iz ((towns : Nat) : Int))), (3, .int (iz ((x : Nat) : Int))), (4, .int (iz (xb (grows)))), (5, .int (iz ((met : Nat) : Int))), (6, .int (iz ((w : Nat) : Int)))] dX12_joins_61 (by decide) rfl ?_
                refine hv_iload_n C 3 4 dX12_joins_63 rfl rfl ?_
                refine hv_iload C 7 0 dX12_joins_64 rfl ?_
                refine hv_iandn C x ((2 ^ na) ||| (2 ^ nb)) rfl rfl dX12_joins_66 ?_
                have na66 : (x &&& ((2 ^ na) ||| (2 ^ nb))) ≤ x := Nat.and_le_left
                refine hv_if_eq C 75 dX12_joins_67 (by decide) (by omega) (fun h67 => ?_) (fun h67 => ?_)
                · skip
                  refine hv_iinc C 6 7 [(6, .int (iz (((w : Nat) : Int) + 1))), (7, .int (iz (((2 ^ na) ||| (2 ^ nb) : Nat) : Int))), (0, .ref a0), (1, .int (iz set)), (2, .int (iz ((towns : Nat) : Int))), (3, .int (iz ((x : Nat) : Int))), (4, .int (iz (xb (grows)))), (5, .int (iz ((met : Nat) : Int)))] dX12_joins_75 rfl (by decide) rfl ?_
                  refine hv_goto C 19 dX12_joins_78 (by decide) ?_
                  refine hv_loc [2, 3, 4, 5, 6, 7, 0] [(0, .ref a0), (1, .int (iz set)), (2, .int (iz ((towns : Nat) : Int))), (3, .int (iz ((x : Nat) : Int))), (4, .int (iz (xb (grows)))), (5, .int (iz ((met : Nat) : Int))), (6, .int (iz (((w : Nat) : Int) + 1)))] rfl ?_
                  exact ih19 (w + 1) x (by omega) (by omega) (by simp only [jw]; rw [← hx9]; first | (rw [if_pos (by omega)]) | (rw [if_neg (by omega), ewb]; first | (rw [if_pos (by omega)]) | (rw [if_neg (by omega)])))
                · skip
                  refine hv_iload_n C 3 4 dX12_joins_70 rfl rfl ?_
                  refine hv_iload C 7 0 dX12_joins_71 rfl ?_
                  refine hv_iorn C x ((2 ^ na) ||| (2 ^ nb)) rfl rfl dX12_joins_73 ?_
                  refine hv_istore_n C 3 [(3, .int (iz ((x ||| ((2 ^ na) ||| (2 ^ nb)) : Nat) : Int))), (7, .int (iz (((2 ^ na) ||| (2 ^ nb) : Nat) : Int))), (0, .ref a0), (1, .int (iz set)), (2, .int (iz ((towns : Nat) : Int))), (4, .int (iz (xb (grows)))), (5, .int (iz ((met : Nat) : Int))), (6, .int (iz ((w : Nat) : Int)))] dX12_joins_74 rfl (by decide) rfl ?_
                  refine hv_iinc C 6 7 [(6, .int (iz (((w : Nat) : Int) + 1))), (3, .int (iz ((x ||| ((2 ^ na) ||| (2 ^ nb)) : Nat) : Int))), (7, .int (iz (((2 ^ na) ||| (2 ^ nb) : Nat) : Int))), (0, .ref a0), (1, .int (iz set)), (2, .int (iz ((towns : Nat) : Int))), (4, .int (iz (xb (grows)))), (5, .int (iz ((met : Nat) : Int)))] dX12_joins_75 rfl (by decide) rfl ?_
                  refine hv_goto C 19 dX12_joins_78 (by decide) ?_
                  refine hv_loc [3, 4, 5, 1, 6, 7, 0] [(0, .ref a0), (1, .int (iz set)), (2, .int (iz ((towns : Nat) : Int))), (3, .int (iz ((x ||| ((2 ^ na) ||| (2 ^ nb)) : Nat) : Int))), (4, .int (iz (xb (grows)))), (5, .int (iz ((met : Nat) : Int))), (6, .int (iz (((w : Nat) : Int) + 1)))] rfl ?_
                  exact ih19 (w + 1) (x ||| ((2 ^ na) ||| (2 ^ nb))) (by omega) (by omega) (by simp only [jw]; rw [← hx9]; first | (rw [if_pos (by omega)]) | (rw [if_neg (by omega), ewb]; first | (rw [if_pos (by omega)]) | (rw [if_neg (by omega)])))
              · skip
                refine hv_goto C 75 dX12_joins_39 (by decide) ?_
                refine hv_iinc C 6 6 [(6, .int (iz (((w : Nat) : Int) + 1))), (0, .ref a0), (1, .int (iz set)), (2, .int (iz ((towns : Nat) : Int))), (3, .int (iz ((x : Nat) : Int))), (4, .int (iz (xb (grows)))), (5, .int (iz ((met : Nat) : Int)))] dX12_joins_75 rfl (by decide) rfl ?_
                refine hv_goto C 19 dX12_joins_78 (by decide) ?_
                refine hv_loc [1, 2, 3, 4, 5, 6, 0] [(0, .ref a0), (1, .int (iz set)), (2, .int (iz ((towns : Nat) : Int))), (3, .int (iz ((x : Nat) : Int))), (4, .int (iz (xb (grows)))), (5, .int (iz ((met : Nat) : Int))), (6, .int (iz (((w : Nat) : Int) + 1)))] rfl ?_
                exact ih19 (w + 1) x (by omega) (by omega) (by simp only [jw]; rw [← hx9]; first | (rw [if_pos (by omega)]) | (rw [if_neg (by omega), ewb]; first | (rw [if_pos (by omega)]) | (rw [if_neg (by omega)])))
        refine hv_loc [2, 3, 4, 5, 6, 1, 0] [(0, .ref a0), (1, .int (iz set)), (2, .int (iz ((towns : Nat) : Int))), (3, .int (iz ((met : Nat) : Int))), (4, .int (iz (xb (grows)))), (5, .int (iz ((met : Nat) : Int))), (6, .int (iz 0))] rfl ?_
        exact L19 _ 0 met (Nat.lt_succ_self _) (by omega) rfl
  refine hv_loc [2, 3, 4, 1, 0] [(0, .ref a0), (1, .int (iz set)), (2, .int (iz ((towns : Nat) : Int))), (3, .int (iz ((towns &&& (4096 - towns) : Nat) : Int))), (4, .int (iz 1))] rfl ?_
  exact L8 _ (towns &&& (4096 - towns)) true 256 (Nat.lt_succ_self _) (by omega) (fun _ => by omega) ⟨fun _ => rfl, fun h => absurd h (by decide)⟩
def fr9 (A K : Nat → Int) : Nat → Nat
  | 0 => 0
  | w + 1 => fr9 A K w ||| (if K w < A (30 + 4 * w + 3) then 2 ^ w else 0)
theorem fr9_lt (A K : Nat → Int) : ∀ w : Nat, fr9 A K w < 2 ^ w
  | 0 => by simp [fr9]
  | w + 1 => by
    have h := fr9_lt A K w
    unfold fr9
    refine Nat.or_lt_two_pow (Nat.lt_trans h (Nat.pow_lt_pow_right (by decide) (by omega))) ?_
    split
    · exact Nat.pow_lt_pow_right (by decide) (by omega)
    · exact Nat.pow_pos (by decide)
/-- the least set so far among the first n, and its length -/
def bs (A K L : Nat → Int) (towns : Nat) : Nat → Int × Int
  | 0 => (-1, 0)
  | n + 1 => if (n &&& (4095 ^^^ fr9 A K (A 1).toNat)) = 0 ∧ ((bs A K L towns n).1 < 0 ∨ L n < (bs A K L towns n).2) ∧ jo A (n : Int) towns = true then ((n : Int), L n) else bs A K L towns n
theorem bs_rng (A K L : Nat → Int) (towns : Nat) : ∀ n : Nat, -1 ≤ (bs A K L towns n).1 ∧ (bs A K L towns n).1 < (n : Int)
  | 0 => by simp [bs]
  | n + 1 => by
    have := bs_rng A K L towns n
    unfold bs
    split
    · exact ⟨by show -1 ≤ (n : Int); omega, by show (n : Int) < ((n + 1 : Nat) : Int); omega⟩
    · omega

theorem dX12_bestOf_0 : decode cX12_bestOf 0 = .ok (.iconst 0, 1) := by decide +kernel
theorem dX12_bestOf_1 : decode cX12_bestOf 1 = .ok (.istore_n 2, 1) := by decide +kernel
theorem dX12_bestOf_2 : decode cX12_bestOf 2 = .ok (.iconst 0, 1) := by decide +kernel
theorem dX12_bestOf_3 : decode cX12_bestOf 3 = .ok (.istore_n 3, 1) := by decide +kernel
theorem dX12_bestOf_4 : decode cX12_bestOf 4 = .ok (.iload_n 3, 1) := by decide +kernel
theorem dX12_bestOf_5 : decode cX12_bestOf 5 = .ok (.aload_n 0, 1) := by decide +kernel
theorem dX12_bestOf_6 : decode cX12_bestOf 6 = .ok (.getfield 7, 3) := by decide +kernel
theorem dX12_bestOf_9 : decode cX12_bestOf 9 = .ok (.iconst 1, 1) := by decide +kernel
theorem dX12_bestOf_10 : decode cX12_bestOf 10 = .ok (.iaload, 1) := by decide +kernel
theorem dX12_bestOf_11 : decode cX12_bestOf 11 = .ok (.if_icmp .ge 34, 3) := by decide +kernel
theorem dX12_bestOf_14 : decode cX12_bestOf 14 = .ok (.iload_n 2, 1) := by decide +kernel
theorem dX12_bestOf_15 : decode cX12_bestOf 15 = .ok (.aload_n 0, 1) := by decide +kernel
theorem dX12_bestOf_16 : decode cX12_bestOf 16 = .ok (.getfield 26, 3) := by decide +kernel
theorem dX12_bestOf_19 : decode cX12_bestOf 19 = .ok (.iload_n 3, 1) := by decide +kernel
theorem dX12_bestOf_20 : decode cX12_bestOf 20 = .ok (.iaload, 1) := by decide +kernel
theorem dX12_bestOf_21 : decode cX12_bestOf 21 = .ok (.aload_n 0, 1) := by decide +kernel
theorem dX12_bestOf_22 : decode cX12_bestOf 22 = .ok (.iload_n 3, 1) := by decide +kernel
theorem dX12_bestOf_23 : decode cX12_bestOf 23 = .ok (.iconst 3, 1) := by decide +kernel
theorem dX12_bestOf_24 : decode cX12_bestOf 24 = .ok (.invokevirtual 237, 3) := by decide +kernel
theorem dX12_bestOf_27 : decode cX12_bestOf 27 = .ok (.if_icmp .ge 9, 3) := by decide +kernel
theorem dX12_bestOf_30 : decode cX12_bestOf 30 = .ok (.iconst 1, 1) := by decide +kernel
theorem dX12_bestOf_31 : decode cX12_bestOf 31 = .ok (.iload_n 3, 1) := by decide +kernel
theorem dX12_bestOf_32 : decode cX12_bestOf 32 = .ok (.ishl, 1) := by decide +kernel
theorem dX12_bestOf_33 : decode cX12_bestOf 33 = .ok (.goto 4, 3) := by decide +kernel
theorem dX12_bestOf_36 : decode cX12_bestOf 36 = .ok (.iconst 0, 1) := by decide +kernel
theorem dX12_bestOf_37 : decode cX12_bestOf 37 = .ok (.ior, 1) := by decide +kernel
theorem dX12_bestOf_38 : decode cX12_bestOf 38 = .ok (.istore_n 2, 1) := by decide +kernel
theorem dX12_bestOf_39 : decode cX12_bestOf 39 = .ok (.iinc 3 1, 3) := by decide +kernel
theorem dX12_bestOf_42 : decode cX12_bestOf 42 = .ok (.goto (-38), 3) := by decide +kernel
theorem dX12_bestOf_45 : decode cX12_bestOf 45 = .ok (.iconst (-1), 1) := by decide +kernel
theorem dX12_bestOf_46 : decode cX12_bestOf 46 = .ok (.istore_n 3, 1) := by decide +kernel
theorem dX12_bestOf_47 : decode cX12_bestOf 47 = .ok (.iconst 0, 1) := by decide +kernel
theorem dX12_bestOf_48 : decode cX12_bestOf 48 = .ok (.istore 4, 2) := by decide +kernel
theorem dX12_bestOf_50 : decode cX12_bestOf 50 = .ok (.iconst 0, 1) := by decide +kernel
theorem dX12_bestOf_51 : decode cX12_bestOf 51 = .ok (.istore 5, 2) := by decide +kernel
theorem dX12_bestOf_53 : decode cX12_bestOf 53 = .ok (.iload 5, 2) := by decide +kernel
theorem dX12_bestOf_55 : decode cX12_bestOf 55 = .ok (.iconst 1, 1) := by decide +kernel
theorem dX12_bestOf_56 : decode cX12_bestOf 56 = .ok (.aload_n 0, 1) := by decide +kernel
theorem dX12_bestOf_57 : decode cX12_bestOf 57 = .ok (.getfield 7, 3) := by decide +kernel
theorem dX12_bestOf_60 : decode cX12_bestOf 60 = .ok (.iconst 1, 1) := by decide +kernel
theorem dX12_bestOf_61 : decode cX12_bestOf 61 = .ok (.iaload, 1) := by decide +kernel
theorem dX12_bestOf_62 : decode cX12_bestOf 62 = .ok (.ishl, 1) := by decide +kernel
theorem dX12_bestOf_63 : decode cX12_bestOf 63 = .ok (.if_icmp .ge 62, 3) := by decide +kernel
theorem dX12_bestOf_66 : decode cX12_bestOf 66 = .ok (.iload 5, 2) := by decide +kernel
theorem dX12_bestOf_68 : decode cX12_bestOf 68 = .ok (.iload_n 2, 1) := by decide +kernel
theorem dX12_bestOf_69 : decode cX12_bestOf 69 = .ok (.iconst (-1), 1) := by decide +kernel
theorem dX12_bestOf_70 : decode cX12_bestOf 70 = .ok (.ixor, 1) := by decide +kernel
theorem dX12_bestOf_71 : decode cX12_bestOf 71 = .ok (.iand, 1) := by decide +kernel
theorem dX12_bestOf_72 : decode cX12_bestOf 72 = .ok (.ifCond .eq 6, 3) := by decide +kernel
theorem dX12_bestOf_75 : decode cX12_bestOf 75 = .ok (.goto 44, 3) := by decide +kernel
theorem dX12_bestOf_78 : decode cX12_bestOf 78 = .ok (.iload_n 3, 1) := by decide +kernel
theorem dX12_bestOf_79 : decode cX12_bestOf 79 = .ok (.ifCond .lt 15, 3) := by decide +kernel
theorem dX12_bestOf_82 : decode cX12_bestOf 82 = .ok (.aload_n 0, 1) := by decide +kernel
theorem dX12_bestOf_83 : decode cX12_bestOf 83 = .ok (.getfield 29, 3) := by decide +kernel
theorem dX12_bestOf_86 : decode cX12_bestOf 86 = .ok (.iload 5, 2) := by decide +kernel
theorem dX12_bestOf_88 : decode cX12_bestOf 88 = .ok (.iaload, 1) := by decide +kernel
theorem dX12_bestOf_89 : decode cX12_bestOf 89 = .ok (.iload 4, 2) := by decide +kernel
theorem dX12_bestOf_91 : decode cX12_bestOf 91 = .ok (.if_icmp .ge 28, 3) := by decide +kernel
theorem dX12_bestOf_94 : decode cX12_bestOf 94 = .ok (.aload_n 0, 1) := by decide +kernel
theorem dX12_bestOf_95 : decode cX12_bestOf 95 = .ok (.iload 5, 2) := by decide +kernel
theorem dX12_bestOf_97 : decode cX12_bestOf 97 = .ok (.iload_n 1, 1) := by decide +kernel
theorem dX12_bestOf_98 : decode cX12_bestOf 98 = .ok (.invokevirtual 240, 3) := by decide +kernel
theorem dX12_bestOf_101 : decode cX12_bestOf 101 = .ok (.ifCond .ne 6, 3) := by decide +kernel
theorem dX12_bestOf_104 : decode cX12_bestOf 104 = .ok (.goto 15, 3) := by decide +kernel
theorem dX12_bestOf_107 : decode cX12_bestOf 107 = .ok (.iload 5, 2) := by decide +kernel
theorem dX12_bestOf_109 : decode cX12_bestOf 109 = .ok (.istore_n 3, 1) := by decide +kernel
theorem dX12_bestOf_110 : decode cX12_bestOf 110 = .ok (.aload_n 0, 1) := by decide +kernel
theorem dX12_bestOf_111 : decode cX12_bestOf 111 = .ok (.getfield 29, 3) := by decide +kernel
theorem dX12_bestOf_114 : decode cX12_bestOf 114 = .ok (.iload 5, 2) := by decide +kernel
theorem dX12_bestOf_116 : decode cX12_bestOf 116 = .ok (.iaload, 1) := by decide +kernel
theorem dX12_bestOf_117 : decode cX12_bestOf 117 = .ok (.istore 4, 2) := by decide +kernel
theorem dX12_bestOf_119 : decode cX12_bestOf 119 = .ok (.iinc 5 1, 3) := by decide +kernel
theorem dX12_bestOf_122 : decode cX12_bestOf 122 = .ok (.goto (-69), 3) := by decide +kernel
theorem dX12_bestOf_125 : decode cX12_bestOf 125 = .ok (.iload_n 3, 1) := by decide +kernel
theorem dX12_bestOf_126 : decode cX12_bestOf 126 = .ok (.ireturn, 1) := by decide +kernel
set_option maxRecDepth 100000 in
set_option maxHeartbeats 4000000 in
theorem k_bestOf (l : Launch) {D : va_G} {cI cZ : ClassId} {a0 : Nat} (σ : Nat → Nat → Int) (towns : Nat) (hσ : rg σ) (hc : cn (σ 1)) (hwi : wi (σ 1)) (r_t : towns < 256) : moM l D cI cZ a0 yX12_bestOf cX12_bestOf 6 (some .int) 2 49 [.ref a0, .int (iz ((towns : Nat) : Int))] σ (some (.int (iz ((bs (σ 1) (σ 6) (σ 7) towns (2 ^ (σ 1 1).toNat)).1)))) (σ) := by
  refine mo_start (by decide) rfl (Nat.le_of_ble_eq_true rfl) ?_
  intro p e s m args below meth c C K hr hlk
  have hp2 : (2 : Nat) ^ (σ 1 1).toNat ≤ 2 ^ 12 := Nat.pow_le_pow_right (by decide) (by omega)
  have hp3 : ((2 : Int) ^ (σ 1 1).toNat) = ((2 ^ (σ 1 1).toNat : Nat) : Int) := by simp
  refine hv_iconst C dX12_bestOf_0 ?_
  refine hv_istore_n C 2 [(2, .int (iz 0)), (0, .ref a0), (1, .int (iz ((towns : Nat) : Int)))] dX12_bestOf_1 rfl (by decide) rfl ?_
  refine hv_iconst C dX12_bestOf_2 ?_
  refine hv_istore_n C 3 [(3, .int (iz 0)), (2, .int (iz 0)), (0, .ref a0), (1, .int (iz ((towns : Nat) : Int)))] dX12_bestOf_3 rfl (by decide) rfl ?_
  have L4 : ∀ (f : Nat) (w : Nat) (fre : Nat), (σ 1 1).toNat - w < f → (w : Int) ≤ σ 1 1 → fre = fr9 (σ 1) (σ 6) w → hvV p l e { frames := 2, cells := 0, slots := 0, locals := 49 } s m args below meth c 6 (moR a0) 0 0 (MQ below (moQ D cI cZ a0 (some (.int (iz ((bs (σ 1) (σ 6) (σ 7) towns (2 ^ (σ 1 1).toNat)).1)))) (σ)) args s 0 0 (moR a0)) (moI D cI cZ a0 s.heap σ) 4 [(0, .ref a0), (1, .int (iz ((towns : Nat) : Int))), (2, .int (iz ((fre : Nat) : Int))), (3, .int (iz ((w : Nat) : Int)))] [] := by
    intro f
    induction f with
    | zero => intro _ _ hm; exact absurd hm (Nat.not_lt_zero _)
    | succ f ih4 =>
      intro w fre hm4 hw0 hfr
      refine hv_iload_n C 3 3 dX12_bestOf_4 rfl rfl ?_
      refine hv_aload_n C 0 0 dX12_bestOf_5 rfl rfl ?_
      refine mo_geta C K 0 1 (by decide) rfl mo_hw fl_7 rfl dX12_bestOf_6 ?_
      refine hv_iconst C dX12_bestOf_9 ?_
      refine mo_iald C K 1 9040 1 rfl (by omega) (by omega) (by decide) dX12_bestOf_10 ?_
      refine hv_nm (fun x1 ex1 => ?_)
      have rx1 : inI x1 := by rw [ex1]; exact hσ 1 1
      refine hv_icmp_ge C 45 dX12_bestOf_11 (by decide) (by omega) (by omega) (fun h11 => ?_) (fun h11 => ?_)
      · skip
        have e45 : (σ 1 1).toNat = w := by omega
        have hf9 := fr9_lt (σ 1) (σ 6) (σ 1 1).toNat
        rw [e45, ← hfr] at hf9
        rw [e45] at hp2
        refine hv_iconst C dX12_bestOf_45 ?_
        refine hv_istore_n C 3 [(3, .int (iz (-1))), (0, .ref a0), (1, .int (iz ((towns : Nat) : Int))), (2, .int (iz ((fre : Nat) : Int)))] dX12_bestOf_46 rfl (by decide) rfl ?_
        refine hv_iconst C dX12_bestOf_47 ?_
        refine hv_istore C 4 [(4, .int (iz 0)), (3, .int (iz (-1))), (0, .ref a0), (1, .int (iz ((towns : Nat) : Int))), (2, .int (iz ((fre : Nat) : Int)))] dX12_bestOf_48 (by decide) rfl ?_
        refine hv_iconst C dX12_bestOf_50 ?_
        refine hv_istore C 5 [(5, .int (iz 0)), (4, .int (iz 0)), (3, .int (iz (-1))), (0, .ref a0), (1, .int (iz ((towns : Nat) : Int))), (2, .int (iz ((fre : Nat) : Int)))] dX12_bestOf_51 (by decide) rfl ?_
        have L53 : ∀ (f : Nat) (set : Nat) (best : Int) (least : Int), 2 ^ w - set < f → set ≤ 2 ^ w → best = (bs (σ 1) (σ 6) (σ 7) towns set).1 → least = (bs (σ 1) (σ 6) (σ 7) towns set).2 → inI least → hvV p l e { frames := 2, cells := 0, slots := 0, locals := 49 } s m args below meth c 6 (moR a0) 0 0 (MQ below (moQ D cI cZ a0 (some (.int (iz ((bs (σ 1) (σ 6) (σ 7) towns (2 ^ (σ 1 1).toNat)).1)))) (σ)) args s 0 0 (moR a0)) (moI D cI cZ a0 s.heap σ) 53 [(0, .ref a0), (1, .int (iz ((towns : Nat) : Int))), (2, .int (iz ((fre : Nat) : Int))), (3, .int (iz best)), (4, .int (iz least)), (5, .int (iz ((set : Nat) : Int)))] [] := by
          intro f
          induction f with
          | zero => intro _ _ _ hm; exact absurd hm (Nat.not_lt_zero _)
          | succ f ih53 =>
            intro set best least hm53 hs0 hb1 hb2 hb3
            refine hv_iload C 5 5 dX12_bestOf_53 rfl ?_
            refine hv_iconst C dX12_bestOf_55 ?_
            refine hv_aload_n C 0 0 dX12_bestOf_56 rfl rfl ?_
            refine mo_geta C K 0 1 (by decide) rfl mo_hw fl_7 rfl dX12_bestOf_57 ?_
            refine hv_iconst C dX12_bestOf_60 ?_
            refine mo_iald C K 1 9040 1 rfl (by omega) (by omega) (by decide) dX12_bestOf_61 ?_
            refine hv_ishl1 C (((σ 1 1) : Int)).toNat (by omega) (by omega) dX12_bestOf_62 ?_
            refine hv_as (((2 ^ w : Nat) : Int)) (by rw [e45]; simp) ?_
            refine hv_icmp_ge C 125 dX12_bestOf_63 (by decide) (by omega) (by omega) (fun h63 => ?_) (fun h63 => ?_)
            · skip
              refine hv_iload_n C 3 3 dX12_bestOf_125 rfl rfl ?_
              exact mo_iret (Qc := fun _ _ _ _ => True) C hr hlk (by have e9 : set = 2 ^ w := (by omega); rw [e45, ← e9]; exact hb1) rfl dX12_bestOf_126
            · skip
              refine hv_iload C 5 5 dX12_bestOf_66 rfl ?_
              refine hv_iload_n C 2 2 dX12_bestOf_68 rfl rfl ?_
              refine hv_iconst C dX12_bestOf_69 ?_
              refine hv_inot C dX12_bestOf_70 ?_
              refine hv_iandnot C set fre rfl rfl (by omega) (by omega) dX12_bestOf_71 ?_
              have na71 : (set &&& (4095 ^^^ fre)) ≤ set := Nat.and_le_left
              refine hv_if_eq C 78 dX12_bestOf_72 (by decide) (by omega) (fun h72 => ?_) (fun h72 => ?_)
              · skip
                have zb9 := bs_rng (σ 1) (σ 6) (σ 7) towns set
                refine hv_iload_n C 3 3 dX12_bestOf_78 rfl rfl ?_
                refine hv_if_lt C 94 dX12_bestOf_79 (by decide) (by omega) (fun h79 => ?_) (fun h79 => ?_)
                · skip
                  refine hv_aload_n C 0 0 dX12_bestOf_94 rfl rfl ?_
                  refine hv_iload C 5 5 dX12_bestOf_95 rfl ?_
                  refine hv_iload_n C 1 1 dX12_bestOf_97 rfl rfl ?_
                  refine mo_call [.int (iz ((set : Nat) : Int)), .int (iz ((towns : Nat) : Int))] [] C K (k_joins l σ ((set : Nat) : Int) towns hσ (by omega) (by omega) (by omega) (by omega)) ck_joins (by decide) rfl (Nat.le_of_ble_eq_true rfl) dX12_bestOf_98 ?_
                  refine hv_bif_ne C 107 dX12_bestOf_101 (by decide)  (fun h101 => ?_) (fun h101 => ?_)
                  · skip
                    refine hv_iload C 5 5 dX12_bestOf_107 rfl ?_
                    refine hv_istore_n C 3 [(3, .int (iz ((set : Nat) : Int))), (0, .ref a0), (1, .int (iz ((towns : Nat) : Int))), (2, .int (iz ((fre : Nat) : Int))), (4, .int (iz least)), (5, .int (iz ((set : Nat) : Int)))] dX12_bestOf_109 rfl (by decide) rfl ?_
                    refine hv_aload_n C 0 1 dX12_bestOf_110 rfl rfl ?_
                    refine mo_geta C K 15 7 (by decide) rfl mo_hw fl_29 rfl dX12_bestOf_111 ?_
                    refine hv_iload C 5 5 dX12_bestOf_114 rfl ?_
                    refine mo_iald C K 7 4096 set rfl (by omega) (by omega) (by decide) dX12_bestOf_116 ?_
                    refine hv_nm (fun x2 ex2 => ?_)
                    have rx2 : inI x2 := by rw [ex2]; exact hσ 7 set
                    refine hv_istore C 4 [(4, .int (iz x2)), (3, .int (iz ((set : Nat) : Int))), (0, .ref a0), (1, .int (iz ((towns : Nat) : Int))), (2, .int (iz ((fre : Nat) : Int))), (5, .int (iz ((set : Nat) : Int)))] dX12_bestOf_117 (by decide) rfl ?_
                    refine hv_iinc C 5 5 [(5, .int (iz (((set : Nat) : Int) + 1))), (4, .int (iz x2)), (3, .int (iz ((set : Nat) : Int))), (0, .ref a0), (1, .int (iz ((towns : Nat) : Int))), (2, .int (iz ((fre : Nat) : Int)))] dX12_bestOf_119 rfl (by decide) rfl ?_
                    refine hv_goto C 53 dX12_bestOf_122 (by decide) ?_
                    refine hv_loc [3, 4, 5, 2, 1, 0] [(0, .ref a0), (1, .int (iz ((towns : Nat) : Int))), (2, .int (iz ((fre : Nat) : Int))), (3, .int (iz ((set : Nat) : Int))), (4, .int (iz x2)), (5, .int (iz (((set : Nat) : Int) + 1)))] rfl ?_
                    exact ih53 (set + 1) ((set : Nat) : Int) x2 (by omega) (by omega) (by simp only [bs]; rw [e45, ← hfr, ← hb1, ← hb2]; first | (rw [if_neg (by omega)]; exact hb1) | (rw [if_neg (fun zz => by have zj := zz.2.2; rw [h101] at zj; exact absurd zj (by decide))]; exact hb1) | (rw [if_pos ⟨by omega, by omega, by assumption⟩]; done) | (rw [if_pos ⟨by omega, by omega, by assumption⟩]; assumption)) (by simp only [bs]; rw [e45, ← hfr, ← hb1, ← hb2]; first | (rw [if_neg (by omega)]; exact hb2) | (rw [if_neg (fun zz => by have zj := zz.2.2; rw [h101] at zj; exact absurd zj (by decide))]; exact hb2) | (rw [if_pos ⟨by omega, by omega, by assumption⟩]; done) | (rw [if_pos ⟨by omega, by omega, by assumption⟩]; assumption)) (by first | assumption | omega)
                  · skip
                    refine hv_goto C 119 dX12_bestOf_104 (by decide) ?_
                    refine hv_iinc C 5 5 [(5, .int (iz (((set : Nat) : Int) + 1))), (0, .ref a0), (1, .int (iz ((towns : Nat) : Int))), (2, .int (iz ((fre : Nat) : Int))), (3, .int (iz best)), (4, .int (iz least))] dX12_bestOf_119 rfl (by decide) rfl ?_
                    refine hv_goto C 53 dX12_bestOf_122 (by decide) ?_
                    refine hv_loc [1, 2, 3, 4, 5, 0] [(0, .ref a0), (1, .int (iz ((towns : Nat) : Int))), (2, .int (iz ((fre : Nat) : Int))), (3, .int (iz best)), (4, .int (iz least)), (5, .int (iz (((set : Nat) : Int) + 1)))] rfl ?_
                    exact ih53 (set + 1) best least (by omega) (by omega) (by simp only [bs]; rw [e45, ← hfr, ← hb1, ← hb2]; first | (rw [if_neg (by omega)]; exact hb1) | (rw [if_neg (fun zz => by have zj := zz.2.2; rw [h101] at zj; exact absurd zj (by decide))]; exact hb1) | (rw [if_pos ⟨by omega, by omega, by assumption⟩]; done) | (rw [if_pos ⟨by omega, by omega, by assumption⟩]; assumption)) (by simp only [bs]; rw [e45, ← hfr, ← hb1, ← hb2]; first | (rw [if_neg (by omega)]; exact hb2) | (rw [if_neg (fun zz => by have zj := zz.2.2; rw [h101] at zj; exact absurd zj (by decide))]; exact hb2) | (rw [if_pos ⟨by omega, by omega, by assumption⟩]; done) | (rw [if_pos ⟨by omega, by omega, by assumption⟩]; assumption)) (by first | assumption | omega)
                · skip
                  refine hv_aload_n C 0 0 dX12_bestOf_82 rfl rfl ?_
                  refine mo_geta C K 15 7 (by decide) rfl mo_hw fl_29 rfl dX12_bestOf_83 ?_
                  refine hv_iload C 5 5 dX12_bestOf_86 rfl ?_
                  refine mo_iald C K 7 4096 set rfl (by omega) (by omega) (by decide) dX12_bestOf_88 ?_
                  refine hv_nm (fun x3 ex3 => ?_)
                  have rx3 : inI x3 := by rw [ex3]; exact hσ 7 set
                  refine hv_iload C 4 4 dX12_bestOf_89 rfl ?_
                  refine hv_icmp_ge C 119 dX12_bestOf_91 (by decide) (by omega) (by omega) (fun h91 => ?_) (fun h91 => ?_)
                  · skip
                    refine hv_iinc C 5 5 [(5, .int (iz (((set : Nat) : Int) + 1))), (0, .ref a0), (1, .int (iz ((towns : Nat) : Int))), (2, .int (iz ((fre : Nat) : Int))), (3, .int (iz best)), (4, .int (iz least))] dX12_bestOf_119 rfl (by decide) rfl ?_
                    refine hv_goto C 53 dX12_bestOf_122 (by decide) ?_
                    refine hv_loc [1, 2, 3, 4, 5, 0] [(0, .ref a0), (1, .int (iz ((towns : Nat) : Int))), (2, .int (iz ((fre : Nat) : Int))), (3, .int (iz best)), (4, .int (iz least)), (5, .int (iz (((set : Nat) : Int) + 1)))] rfl ?_
                    exact ih53 (set + 1) best least (by omega) (by omega) (by simp only [bs]; rw [e45, ← hfr, ← hb1, ← hb2]; first | (rw [if_neg (by omega)]; exact hb1) | (rw [if_neg (fun zz => by have zj := zz.2.2; rw [h101] at zj; exact absurd zj (by decide))]; exact hb1) | (rw [if_pos ⟨by omega, by omega, by assumption⟩]; done) | (rw [if_pos ⟨by omega, by omega, by assumption⟩]; assumption)) (by simp only [bs]; rw [e45, ← hfr, ← hb1, ← hb2]; first | (rw [if_neg (by omega)]; exact hb2) | (rw [if_neg (fun zz => by have zj := zz.2.2; rw [h101] at zj; exact absurd zj (by decide))]; exact hb2) | (rw [if_pos ⟨by omega, by omega, by assumption⟩]; done) | (rw [if_pos ⟨by omega, by omega, by assumption⟩]; assumption)) (by first | assumption | omega)
                  · skip
                    refine hv_aload_n C 0 0 dX12_bestOf_94 rfl rfl ?_
                    refine hv_iload C 5 5 dX12_bestOf_95 rfl ?_
                    refine hv_iload_n C 1 1 dX12_bestOf_97 rfl rfl ?_
                    refine mo_call [.int (iz ((set : Nat) : Int)), .int (iz ((towns : Nat) : Int))] [] C K (k_joins l σ ((set : Nat) : Int) towns hσ (by omega) (by omega) (by omega) (by omega)) ck_joins (by decide) rfl (Nat.le_of_ble_eq_true rfl) dX12_bestOf_98 ?_
                    refine hv_bif_ne C 107 dX12_bestOf_101 (by decide)  (fun h101 => ?_) (fun h101 => ?_)
                    · skip
                      refine hv_iload C 5 5 dX12_bestOf_107 rfl ?_
                      refine hv_istore_n C 3 [(3, .int (iz ((set : Nat) : Int))), (0, .ref a0), (1, .int (iz ((towns : Nat) : Int))), (2, .int (iz ((fre : Nat) : Int))), (4, .int (iz least)), (5, .int (iz ((set : Nat) : Int)))] dX12_bestOf_109 rfl (by decide) rfl ?_
                      refine hv_aload_n C 0 1 dX12_bestOf_110 rfl rfl ?_
                      refine mo_geta C K 15 7 (by decide) rfl mo_hw fl_29 rfl dX12_bestOf_111 ?_
                      refine hv_iload C 5 5 dX12_bestOf_114 rfl ?_
                      refine mo_iald C K 7 4096 set rfl (by omega) (by omega) (by decide) dX12_bestOf_116 ?_
                      refine hv_nm (fun x4 ex4 => ?_)
                      have rx4 : inI x4 := by rw [ex4]; exact hσ 7 set
                      refine hv_istore C 4 [(4, .int (iz x4)), (3, .int (iz ((set : Nat) : Int))), (0, .ref a0), (1, .int (iz ((towns : Nat) : Int))), (2, .int (iz ((fre : Nat) : Int))), (5, .int (iz ((set : Nat) : Int)))] dX12_bestOf_117 (by decide) rfl ?_
                      refine hv_iinc C 5 5 [(5, .int (iz (((set : Nat) : Int) + 1))), (4, .int (iz x4)), (3, .int (iz ((set : Nat) : Int))), (0, .ref a0), (1, .int (iz ((towns : Nat) : Int))), (2, .int (iz ((fre : Nat) : Int)))] dX12_bestOf_119 rfl (by decide) rfl ?_
                      refine hv_goto C 53 dX12_bestOf_122 (by decide) ?_
                      refine hv_loc [3, 4, 5, 2, 1, 0] [(0, .ref a0), (1, .int (iz ((towns : Nat) : Int))), (2, .int (iz ((fre : Nat) : Int))), (3, .int (iz ((set : Nat) : Int))), (4, .int (iz x4)), (5, .int (iz (((set : Nat) : Int) + 1)))] rfl ?_
                      exact ih53 (set + 1) ((set : Nat) : Int) x4 (by omega) (by omega) (by simp only [bs]; rw [e45, ← hfr, ← hb1, ← hb2]; first | (rw [if_neg (by omega)]; exact hb1) | (rw [if_neg (fun zz => by have zj := zz.2.2; rw [h101] at zj; exact absurd zj (by decide))]; exact hb1) | (rw [if_pos ⟨by omega, by omega, by assumption⟩]; done) | (rw [if_pos ⟨by omega, by omega, by assumption⟩]; assumption)) (by simp only [bs]; rw [e45, ← hfr, ← hb1, ← hb2]; first | (rw [if_neg (by omega)]; exact hb2) | (rw [if_neg (fun zz => by have zj := zz.2.2; rw [h101] at zj; exact absurd zj (by decide))]; exact hb2) | (rw [if_pos ⟨by omega, by omega, by assumption⟩]; done) | (rw [if_pos ⟨by omega, by omega, by assumption⟩]; assumption)) (by first | assumption | omega)
                    · skip
                      refine hv_goto C 119 dX12_bestOf_104 (by decide) ?_
                      refine hv_iinc C 5 5 [(5, .int (iz (((set : Nat) : Int) + 1))), (0, .ref a0), (1, .int (iz ((towns : Nat) : Int))), (2, .int (iz ((fre : Nat) : Int))), (3, .int (iz best)), (4, .int (iz least))] dX12_bestOf_119 rfl (by decide) rfl ?_
                      refine hv_goto C 53 dX12_bestOf_122 (by decide) ?_
                      refine hv_loc [1, 2, 3, 4, 5, 0] [(0, .ref a0), (1, .int (iz ((towns : Nat) : Int))), (2, .int (iz ((fre : Nat) : Int))), (3, .int (iz best)), (4, .int (iz least)), (5, .int (iz (((set : Nat) : Int) + 1)))] rfl ?_
                      exact ih53 (set + 1) best least (by omega) (by omega) (by simp only [bs]; rw [e45, ← hfr, ← hb1, ← hb2]; first | (rw [if_neg (by omega)]; exact hb1) | (rw [if_neg (fun zz => by have zj := zz.2.2; rw [h101] at zj; exact absurd zj (by decide))]; exact hb1) | (rw [if_pos ⟨by omega, by omega, by assumption⟩]; done) | (rw [if_pos ⟨by omega, by omega, by assumption⟩]; assumption)) (by simp only [bs]; rw [e45, ← hfr, ← hb1, ← hb2]; first | (rw [if_neg (by omega)]; exact hb2) | (rw [if_neg (fun zz => by have zj := zz.2.2; rw [h101] at zj; exact absurd zj (by decide))]; exact hb2) | (rw [if_pos ⟨by omega, by omega, by assumption⟩]; done) | (rw [if_pos ⟨by omega, by omega, by assumption⟩]; assumption)) (by first | assumption | omega)
              · skip
                refine hv_goto C 119 dX12_bestOf_75 (by decide) ?_
                refine hv_iinc C 5 5 [(5, .int (iz (((set : Nat) : Int) + 1))), (0, .ref a0), (1, .int (iz ((towns : Nat) : Int))), (2, .int (iz ((fre : Nat) : Int))), (3, .int (iz best)), (4, .int (iz least))] dX12_bestOf_119 rfl (by decide) rfl ?_
                refine hv_goto C 53 dX12_bestOf_122 (by decide) ?_
                refine hv_loc [1, 2, 3, 4, 5, 0] [(0, .ref a0), (1, .int (iz ((towns : Nat) : Int))), (2, .int (iz ((fre : Nat) : Int))), (3, .int (iz best)), (4, .int (iz least)), (5, .int (iz (((set : Nat) : Int) + 1)))] rfl ?_
                exact ih53 (set + 1) best least (by omega) (by omega) (by simp only [bs]; rw [e45, ← hfr, ← hb1, ← hb2]; first | (rw [if_neg (by omega)]; exact hb1) | (rw [if_neg (fun zz => by have zj := zz.2.2; rw [h101] at zj; exact absurd zj (by decide))]; exact hb1) | (rw [if_pos ⟨by omega, by omega, by assumption⟩]; done) | (rw [if_pos ⟨by omega, by omega, by assumption⟩]; assumption)) (by simp only [bs]; rw [e45, ← hfr, ← hb1, ← hb2]; first | (rw [if_neg (by omega)]; exact hb2) | (rw [if_neg (fun zz => by have zj := zz.2.2; rw [h101] at zj; exact absurd zj (by decide))]; exact hb2) | (rw [if_pos ⟨by omega, by omega, by assumption⟩]; done) | (rw [if_pos ⟨by omega, by omega, by assumption⟩]; assumption)) (by first | assumption | omega)
        refine hv_loc [3, 4, 5, 2, 1, 0] [(0, .ref a0), (1, .int (iz ((towns : Nat) : Int))), (2, .int (iz ((fre : Nat) : Int))), (3, .int (iz (-1))), (4, .int (iz 0)), (5, .int (iz 0))] rfl ?_
        exact L53 _ 0 (-1) 0 (Nat.lt_succ_self _) (by omega) rfl rfl (by decide)
      · skip
        have a1 := hwi w (by omega)
        refine hv_iload_n C 2 2 dX12_bestOf_14 rfl rfl ?_
        refine hv_aload_n C 0 0 dX12_bestOf_15 rfl rfl ?_
        refine mo_geta C K 14 6 (by decide) rfl mo_hw fl_26 rfl dX12_bestOf_16 ?_
        refine hv_iload_n C 3 3 dX12_bestOf_19 rfl rfl ?_
        refine mo_iald C K 6 12 w rfl (by omega) (by omega) (by decide) dX12_bestOf_20 ?_
        refine hv_nm (fun x5 ex5 => ?_)
        have rx5 : inI x5 := by rw [ex5]; exact hσ 6 w
        refine hv_aload_n C 0 0 dX12_bestOf_21 rfl rfl ?_
        refine hv_iload_n C 3 3 dX12_bestOf_22 rfl rfl ?_
        refine hv_iconst C dX12_bestOf_23 ?_
        refine mo_call [.int (iz ((w : Nat) : Int)), .int (iz 3)] [.int (iz x5), .int (iz ((fre : Nat) : Int))] C K (k_wireOf l σ w 3 (by omega) (by omega)) ck_wireOf (by decide) rfl (Nat.le_of_ble_eq_true rfl) dX12_bestOf_24 ?_
        refine hv_nm (fun x6 ex6 => ?_)
        have rx6 : inI x6 := by rw [ex6]; exact hσ _ _
        refine hv_icmp_ge C 36 dX12_bestOf_27 (by decide) (by omega) (by omega) (fun h27 => ?_) (fun h27 => ?_)
        · skip
          refine hv_iconst C dX12_bestOf_36 ?_
          refine hv_iorn C fre 0 rfl rfl dX12_bestOf_37 ?_
          refine hv_istore_n C 2 [(2, .int (iz ((fre ||| 0 : Nat) : Int))), (0, .ref a0), (1, .int (iz ((towns : Nat) : Int))), (3, .int (iz ((w : Nat) : Int)))] dX12_bestOf_38 rfl (by decide) rfl ?_
          refine hv_iinc C 3 3 [(3, .int (iz (((w : Nat) : Int) + 1))), (2, .int (iz ((fre ||| 0 : Nat) : Int))), (0, .ref a0), (1, .int (iz ((towns : Nat) : Int)))] dX12_bestOf_39 rfl (by decide) rfl ?_
          refine hv_goto C 4 dX12_bestOf_42 (by decide) ?_
          refine hv_loc [2, 3, 1, 0] [(0, .ref a0), (1, .int (iz ((towns : Nat) : Int))), (2, .int (iz ((fre ||| 0 : Nat) : Int))), (3, .int (iz (((w : Nat) : Int) + 1)))] rfl ?_
          exact ih4 (w + 1) (fre ||| 0) (by omega) (by omega) (by simp only [fr9]; rw [← hfr]; first | (rw [if_pos (by omega)]) | (rw [if_neg (by omega)]))
        · skip
          refine hv_iconst C dX12_bestOf_30 ?_
          refine hv_iload_n C 3 3 dX12_bestOf_31 rfl rfl ?_
          refine hv_ishl1 C w (by omega) (by omega) dX12_bestOf_32 ?_
          refine hv_goto C 37 dX12_bestOf_33 (by decide) ?_
          refine hv_iorn C fre (2 ^ w) rfl (by simp) dX12_bestOf_37 ?_
          refine hv_istore_n C 2 [(2, .int (iz ((fre ||| (2 ^ w) : Nat) : Int))), (0, .ref a0), (1, .int (iz ((towns : Nat) : Int))), (3, .int (iz ((w : Nat) : Int)))] dX12_bestOf_38 rfl (by decide) rfl ?_
          refine hv_iinc C 3 3 [(3, .int (iz (((w : Nat) : Int) + 1))), (2, .int (iz ((fre ||| (2 ^ w) : Nat) : Int))), (0, .ref a0), (1, .int (iz ((towns : Nat) : Int)))] dX12_bestOf_39 rfl (by decide) rfl ?_
          refine hv_goto C 4 dX12_bestOf_42 (by decide) ?_
          refine hv_loc [2, 3, 1, 0] [(0, .ref a0), (1, .int (iz ((towns : Nat) : Int))), (2, .int (iz ((fre ||| (2 ^ w) : Nat) : Int))), (3, .int (iz (((w : Nat) : Int) + 1)))] rfl ?_
          exact ih4 (w + 1) (fre ||| (2 ^ w)) (by omega) (by omega) (by simp only [fr9]; rw [← hfr]; first | (rw [if_pos (by omega)]) | (rw [if_neg (by omega)]))
  refine hv_loc [2, 3, 1, 0] [(0, .ref a0), (1, .int (iz ((towns : Nat) : Int))), (2, .int (iz 0)), (3, .int (iz 0))] rfl ?_
  exact L4 _ 0 0 (Nat.lt_succ_self _) (by omega) rfl
