theorem hv_lookup {p : Program} {l : Launch} {e : Env} {R : Room} {s : State} {m : MethodId} {args : Array Value} {below : List Frame} {meth : Method} {c : Code} {nL : Nat} {FR : Nat → Prop} {cells slots : Nat} {Q : State → Prop} {HI : Heap → Prop} {pc : Nat} {loc : List (Nat × Value)} {stk : List Value} {cc : ByteArray} {own : String} (C : CallFix p m c cc nL s args hk_tb own) {x : Int} {dflt : Int} {ps : Array (Int × Int)} {len : Nat} {off : Int} (tgt : Nat) (hx : inI x) (d : decode cc pc = .ok (.lookupswitch dflt ps, len)) (hp : (ps.toList.zip (ps.toList.drop 1)).all (fun (a, next) => a.1 < next.1) = true) (ho : Op.lookupswitch.offset ps.toList dflt x = off) (ht : (pc : Int) + off = (tgt : Int)) (k : hvV p l e R s m args below meth c nL FR cells slots Q HI tgt loc stk) : hvV p l e R s m args below meth c nL FR cells slots Q HI pc loc (.int (iz x) :: stk) := fun H locs ls h1 h2 h3 => lv_lookup C.1 C.2.1 d hp (by rw [iz_toInt hx]; exact ho) ht (k H locs ls h1 h2 h3)
theorem lk_none {x dflt : Int} : ∀ {ps : List (Int × Int)}, (∀ q ∈ ps, ¬ x = q.1) → Op.lookupswitch.offset ps dflt x = dflt
  | [], _ => rfl
  | q :: ps, h => by
    have h1 := h q List.mem_cons_self
    have h2 := lk_none (ps := ps) (dflt := dflt) (fun r hr => h r (List.mem_cons_of_mem _ hr))
    simp_all [Op.lookupswitch.offset]
    intro z; exact absurd z.symm h1

theorem dX11_fault_0 : decode cX11_fault 0 = .ok (.iload_n 1, 1) := by decide +kernel
theorem dX11_fault_1 : decode cX11_fault 1 = .ok (.lookupswitch 43 #[(0, 27), (1, 35)], 27) := by decide +kernel
theorem dX11_fault_28 : decode cX11_fault 28 = .ok (.aload_n 0, 1) := by decide +kernel
theorem dX11_fault_29 : decode cX11_fault 29 = .ok (.getfield 10, 3) := by decide +kernel
theorem dX11_fault_32 : decode cX11_fault 32 = .ok (.getfield 177, 3) := by decide +kernel
theorem dX11_fault_35 : decode cX11_fault 35 = .ok (.ireturn, 1) := by decide +kernel
theorem dX11_fault_36 : decode cX11_fault 36 = .ok (.aload_n 0, 1) := by decide +kernel
theorem dX11_fault_37 : decode cX11_fault 37 = .ok (.getfield 10, 3) := by decide +kernel
theorem dX11_fault_40 : decode cX11_fault 40 = .ok (.getfield 180, 3) := by decide +kernel
theorem dX11_fault_43 : decode cX11_fault 43 = .ok (.ireturn, 1) := by decide +kernel
theorem dX11_fault_44 : decode cX11_fault 44 = .ok (.iconst (-1), 1) := by decide +kernel
theorem dX11_fault_45 : decode cX11_fault 45 = .ok (.ireturn, 1) := by decide +kernel
theorem fl_X11_177 : Cond.fieldLink RX11 177 "HookUps$Told" (TX8 13).2.1 (TX8 13).2.2.1 ∈ hk_tb := hk_tq1 154 (by decide +kernel) (by decide +kernel)
theorem fl_X11_180 : Cond.fieldLink RX11 180 "HookUps$Told" (TX8 14).2.1 (TX8 14).2.2.1 ∈ hk_tb := hk_tq1 156 (by decide +kernel) (by decide +kernel)
set_option maxRecDepth 100000 in
set_option maxHeartbeats 4000000 in
theorem k_X11_fault (l : Launch) {D : va_G} {ar : Nat → ClassId} {B : Nat → Prop} {b n : Nat} {w0 : zcW} (A : Nat → Int) (τ : Nat → Nat → Int) (what : Int) (hA : ∀ i, inI (A i)) (hR : Rel9 ar b w0 A τ) (r_what : inI what) : zt_M l D ar B b w0 n yX11_fault cX11_fault 2 (some .int) 0 0 [.ref b, .int (iz what)] τ (some (.int (iz (if what = 0 then A 11 else if what = 1 then A 12 else -1)))) (τ) := by
  refine zc_start (own := RX11) (by decide +kernel) rfl (Nat.le_of_ble_eq_true rfl) ?_
  intro p e s m args below meth c C K hr hlk hnam
  have zi := hR.i
  unfold rlI at zi
  refine hv_iload_n C 1 1 dX11_fault_0 rfl rfl ?_
  rcases (by omega : what = 0 ∨ what = 1 ∨ (¬ what = 0 ∧ ¬ what = 1)) with q | q | q
  · subst q
    refine hv_lookup (off := 27) C 28 ⟨by decide, by decide⟩ dX11_fault_1 (by decide) (by decide) (by decide) ?_
    refine hv_aload_n C 0 0 dX11_fault_28 rfl rfl ?_
    refine zc_get C K (v := .ref (b + 1)) 0 rfl hu_12 (by decide) cw_0 rfl fl_X11_10 rfl dX11_fault_29 ?_
    refine zc_get C K (v := .int (iz (τ 1 13))) 13 rfl hu_9 (by decide) (cw_at 1 rfl) rfl fl_X11_177 rfl dX11_fault_32 ?_
    refine hv_nm (fun x1 ex1 => ?_)
    have rx1 : inI x1 := by rw [ex1]; exact (by have z := hA 11; omega)
    exact zt_iret C hr hlk (by first | (show _ = A 11; omega) | (show _ = A 12; omega) | (rw [if_neg (by omega), if_neg (by omega)])) rfl dX11_fault_35
  · subst q
    refine hv_lookup (off := 35) C 36 ⟨by decide, by decide⟩ dX11_fault_1 (by decide) (by decide) (by decide) ?_
    refine hv_aload_n C 0 0 dX11_fault_36 rfl rfl ?_
    refine zc_get C K (v := .ref (b + 1)) 0 rfl hu_12 (by decide) cw_0 rfl fl_X11_10 rfl dX11_fault_37 ?_
    refine zc_get C K (v := .int (iz (τ 1 14))) 14 rfl hu_9 (by decide) (cw_at 1 rfl) rfl fl_X11_180 rfl dX11_fault_40 ?_
    refine hv_nm (fun x2 ex2 => ?_)
    have rx2 : inI x2 := by rw [ex2]; exact (by have z := hA 12; omega)
    exact zt_iret C hr hlk (by first | (show _ = A 11; omega) | (show _ = A 12; omega) | (rw [if_neg (by omega), if_neg (by omega)])) rfl dX11_fault_43
  · skip
    refine hv_lookup C 44 (by omega) dX11_fault_1 (by decide) (lk_none (by simp; omega)) (by decide) ?_
    refine hv_iconst C dX11_fault_44 ?_
    exact zt_iret C hr hlk (by first | (show _ = A 11; omega) | (show _ = A 12; omega) | (rw [if_neg (by omega), if_neg (by omega)])) rfl dX11_fault_45
theorem dX11_apart_0 : decode cX11_apart 0 = .ok (.aload_n 0, 1) := by decide +kernel
theorem dX11_apart_1 : decode cX11_apart 1 = .ok (.iload_n 1, 1) := by decide +kernel
theorem dX11_apart_2 : decode cX11_apart 2 = .ok (.invokevirtual 267, 3) := by decide +kernel
theorem dX11_apart_5 : decode cX11_apart 5 = .ok (.ifCond .eq 11, 3) := by decide +kernel
theorem dX11_apart_8 : decode cX11_apart 8 = .ok (.aload_n 0, 1) := by decide +kernel
theorem dX11_apart_9 : decode cX11_apart 9 = .ok (.iload_n 2, 1) := by decide +kernel
theorem dX11_apart_10 : decode cX11_apart 10 = .ok (.invokevirtual 267, 3) := by decide +kernel
theorem dX11_apart_13 : decode cX11_apart 13 = .ok (.ifCond .ne 5, 3) := by decide +kernel
theorem dX11_apart_16 : decode cX11_apart 16 = .ok (.iconst 0, 1) := by decide +kernel
theorem dX11_apart_17 : decode cX11_apart 17 = .ok (.ireturn, 1) := by decide +kernel
theorem dX11_apart_18 : decode cX11_apart 18 = .ok (.aload_n 0, 1) := by decide +kernel
theorem dX11_apart_19 : decode cX11_apart 19 = .ok (.getfield 10, 3) := by decide +kernel
theorem dX11_apart_22 : decode cX11_apart 22 = .ok (.getfield 264, 3) := by decide +kernel
theorem dX11_apart_25 : decode cX11_apart 25 = .ok (.iconst 3, 1) := by decide +kernel
theorem dX11_apart_26 : decode cX11_apart 26 = .ok (.iload_n 1, 1) := by decide +kernel
theorem dX11_apart_27 : decode cX11_apart 27 = .ok (.imul, 1) := by decide +kernel
theorem dX11_apart_28 : decode cX11_apart 28 = .ok (.iconst 1, 1) := by decide +kernel
theorem dX11_apart_29 : decode cX11_apart 29 = .ok (.iadd, 1) := by decide +kernel
theorem dX11_apart_30 : decode cX11_apart 30 = .ok (.iaload, 1) := by decide +kernel
theorem dX11_apart_31 : decode cX11_apart 31 = .ok (.i2l, 1) := by decide +kernel
theorem dX11_apart_32 : decode cX11_apart 32 = .ok (.lstore_n 3, 1) := by decide +kernel
theorem dX11_apart_33 : decode cX11_apart 33 = .ok (.aload_n 0, 1) := by decide +kernel
theorem dX11_apart_34 : decode cX11_apart 34 = .ok (.getfield 10, 3) := by decide +kernel
theorem dX11_apart_37 : decode cX11_apart 37 = .ok (.getfield 264, 3) := by decide +kernel
theorem dX11_apart_40 : decode cX11_apart 40 = .ok (.iconst 3, 1) := by decide +kernel
theorem dX11_apart_41 : decode cX11_apart 41 = .ok (.iload_n 2, 1) := by decide +kernel
theorem dX11_apart_42 : decode cX11_apart 42 = .ok (.imul, 1) := by decide +kernel
theorem dX11_apart_43 : decode cX11_apart 43 = .ok (.iconst 1, 1) := by decide +kernel
theorem dX11_apart_44 : decode cX11_apart 44 = .ok (.iadd, 1) := by decide +kernel
theorem dX11_apart_45 : decode cX11_apart 45 = .ok (.iaload, 1) := by decide +kernel
theorem dX11_apart_46 : decode cX11_apart 46 = .ok (.i2l, 1) := by decide +kernel
theorem dX11_apart_47 : decode cX11_apart 47 = .ok (.lstore 5, 2) := by decide +kernel
theorem dX11_apart_49 : decode cX11_apart 49 = .ok (.aload_n 0, 1) := by decide +kernel
theorem dX11_apart_50 : decode cX11_apart 50 = .ok (.getfield 10, 3) := by decide +kernel
theorem dX11_apart_53 : decode cX11_apart 53 = .ok (.getfield 264, 3) := by decide +kernel
theorem dX11_apart_56 : decode cX11_apart 56 = .ok (.iconst 3, 1) := by decide +kernel
theorem dX11_apart_57 : decode cX11_apart 57 = .ok (.iload_n 1, 1) := by decide +kernel
theorem dX11_apart_58 : decode cX11_apart 58 = .ok (.imul, 1) := by decide +kernel
theorem dX11_apart_59 : decode cX11_apart 59 = .ok (.iconst 2, 1) := by decide +kernel
theorem dX11_apart_60 : decode cX11_apart 60 = .ok (.iadd, 1) := by decide +kernel
theorem dX11_apart_61 : decode cX11_apart 61 = .ok (.iaload, 1) := by decide +kernel
theorem dX11_apart_62 : decode cX11_apart 62 = .ok (.i2l, 1) := by decide +kernel
theorem dX11_apart_63 : decode cX11_apart 63 = .ok (.lstore 7, 2) := by decide +kernel
theorem dX11_apart_65 : decode cX11_apart 65 = .ok (.aload_n 0, 1) := by decide +kernel
theorem dX11_apart_66 : decode cX11_apart 66 = .ok (.getfield 10, 3) := by decide +kernel
theorem dX11_apart_69 : decode cX11_apart 69 = .ok (.getfield 264, 3) := by decide +kernel
theorem dX11_apart_72 : decode cX11_apart 72 = .ok (.iconst 3, 1) := by decide +kernel
theorem dX11_apart_73 : decode cX11_apart 73 = .ok (.iload_n 2, 1) := by decide +kernel
theorem dX11_apart_74 : decode cX11_apart 74 = .ok (.imul, 1) := by decide +kernel
theorem dX11_apart_75 : decode cX11_apart 75 = .ok (.iconst 2, 1) := by decide +kernel
theorem dX11_apart_76 : decode cX11_apart 76 = .ok (.iadd, 1) := by decide +kernel
theorem dX11_apart_77 : decode cX11_apart 77 = .ok (.iaload, 1) := by decide +kernel
theorem dX11_apart_78 : decode cX11_apart 78 = .ok (.i2l, 1) := by decide +kernel
theorem dX11_apart_79 : decode cX11_apart 79 = .ok (.lstore 9, 2) := by decide +kernel
theorem dX11_apart_81 : decode cX11_apart 81 = .ok (.lload 7, 2) := by decide +kernel
theorem dX11_apart_83 : decode cX11_apart 83 = .ok (.lload 5, 2) := by decide +kernel
theorem dX11_apart_85 : decode cX11_apart 85 = .ok (.lmul, 1) := by decide +kernel
theorem dX11_apart_86 : decode cX11_apart 86 = .ok (.lload 9, 2) := by decide +kernel
theorem dX11_apart_88 : decode cX11_apart 88 = .ok (.lload_n 3, 1) := by decide +kernel
theorem dX11_apart_89 : decode cX11_apart 89 = .ok (.lmul, 1) := by decide +kernel
theorem dX11_apart_90 : decode cX11_apart 90 = .ok (.lsub, 1) := by decide +kernel
theorem dX11_apart_91 : decode cX11_apart 91 = .ok (.lstore 11, 2) := by decide +kernel
theorem dX11_apart_93 : decode cX11_apart 93 = .ok (.lload 11, 2) := by decide +kernel
theorem dX11_apart_95 : decode cX11_apart 95 = .ok (.lload 11, 2) := by decide +kernel
theorem dX11_apart_97 : decode cX11_apart 97 = .ok (.lmul, 1) := by decide +kernel
theorem dX11_apart_98 : decode cX11_apart 98 = .ok (.lload_n 3, 1) := by decide +kernel
theorem dX11_apart_99 : decode cX11_apart 99 = .ok (.lload 5, 2) := by decide +kernel
theorem dX11_apart_101 : decode cX11_apart 101 = .ok (.ladd, 1) := by decide +kernel
theorem dX11_apart_102 : decode cX11_apart 102 = .ok (.lmul, 1) := by decide +kernel
theorem dX11_apart_103 : decode cX11_apart 103 = .ok (.ldc2_w 273, 3) := by decide +kernel
theorem dX11_apart_106 : decode cX11_apart 106 = .ok (.lload 7, 2) := by decide +kernel
theorem dX11_apart_108 : decode cX11_apart 108 = .ok (.lload 9, 2) := by decide +kernel
theorem dX11_apart_110 : decode cX11_apart 110 = .ok (.ladd, 1) := by decide +kernel
theorem dX11_apart_111 : decode cX11_apart 111 = .ok (.lmul, 1) := by decide +kernel
theorem dX11_apart_112 : decode cX11_apart 112 = .ok (.lload_n 3, 1) := by decide +kernel
theorem dX11_apart_113 : decode cX11_apart 113 = .ok (.lload 5, 2) := by decide +kernel
theorem dX11_apart_115 : decode cX11_apart 115 = .ok (.ladd, 1) := by decide +kernel
theorem dX11_apart_116 : decode cX11_apart 116 = .ok (.lload 7, 2) := by decide +kernel
theorem dX11_apart_118 : decode cX11_apart 118 = .ok (.lsub, 1) := by decide +kernel
theorem dX11_apart_119 : decode cX11_apart 119 = .ok (.lload 9, 2) := by decide +kernel
theorem dX11_apart_121 : decode cX11_apart 121 = .ok (.lsub, 1) := by decide +kernel
theorem dX11_apart_122 : decode cX11_apart 122 = .ok (.lmul, 1) := by decide +kernel
theorem dX11_apart_123 : decode cX11_apart 123 = .ok (.lload_n 3, 1) := by decide +kernel
theorem dX11_apart_124 : decode cX11_apart 124 = .ok (.lmul, 1) := by decide +kernel
theorem dX11_apart_125 : decode cX11_apart 125 = .ok (.lload 5, 2) := by decide +kernel
theorem dX11_apart_127 : decode cX11_apart 127 = .ok (.lmul, 1) := by decide +kernel
theorem dX11_apart_128 : decode cX11_apart 128 = .ok (.lcmp, 1) := by decide +kernel
theorem dX11_apart_129 : decode cX11_apart 129 = .ok (.ifCond .le 7, 3) := by decide +kernel
theorem dX11_apart_132 : decode cX11_apart 132 = .ok (.iconst 1, 1) := by decide +kernel
theorem dX11_apart_133 : decode cX11_apart 133 = .ok (.goto 4, 3) := by decide +kernel
theorem dX11_apart_136 : decode cX11_apart 136 = .ok (.iconst 0, 1) := by decide +kernel
theorem dX11_apart_137 : decode cX11_apart 137 = .ok (.ireturn, 1) := by decide +kernel
theorem lc_X11_273 : Cond.constantLong RX11 273 4 ∈ hk_tb := hk_tq5 52 (by decide +kernel) (by decide +kernel)
set_option maxRecDepth 100000 in
set_option maxHeartbeats 4000000 in
theorem k_X11_apart (l : Launch) {D : va_G} {ar : Nat → ClassId} {B : Nat → Prop} {b n : Nat} {w0 : zcW} (A : Nat → Int) (τ : Nat → Nat → Int) (a : Int) (b9 : Int) (hA : ∀ i, inI (A i)) (hR : Rel9 ar b w0 A τ) (hc : cn A) (hci : ci A) (r_a : inI a) (r_b9 : inI b9) : zt_M l D ar B b w0 n yX11_apart cX11_apart 13 (some .boolean) 2 43 [.ref b, .int (iz a), .int (iz b9)] τ (some (.int (iz (xb (decide ((0 ≤ a ∧ a ≤ A 6 - 1) ∧ (0 ≤ b9 ∧ b9 ≤ A 6 - 1)) && apx A a.toNat b9.toNat))))) (τ) := by
  refine zc_start (own := RX11) (by decide +kernel) rfl (Nat.le_of_ble_eq_true rfl) ?_
  intro p e s m args below meth c C K hr hlk hnam
  refine hv_aload_n C 0 0 dX11_apart_0 rfl rfl ?_
  refine hv_iload_n C 1 1 dX11_apart_1 rfl rfl ?_
  refine zt_callV [.int (iz a)] [] C K cw_0 rfl (k_X11_isCalls l A τ a hA hR (by omega) hc) ck_X11_267 (by decide) ⟨Nat.zero_le _, Nat.zero_le _⟩ rfl (Nat.le_of_ble_eq_true rfl) dX11_apart_2 ?_
  refine hv_as (xb (decide (0 ≤ a ∧ a ≤ A 6 - 1))) rfl ?_
  refine hv_dif_eq C 16 dX11_apart_5 (by decide)  (fun h5 => ?_) (fun h5 => ?_)
  · skip
    refine hv_iconst C dX11_apart_16 ?_
    exact zt_zret C hr hlk ((xb_f (by first | (simp only [Bool.and_eq_false_iff, decide_eq_false_iff_not]; left; omega) | (subst_vars; simp only [Int.toNat_natCast, Bool.and_eq_true, decide_eq_true_eq]; exact ⟨by omega, decide_eq_true h129⟩) | (subst_vars; simp only [Int.toNat_natCast, Bool.and_eq_false_iff]; right; exact decide_eq_false (Int.not_lt.mpr h129)))).symm) rfl dX11_apart_17
  · skip
    refine hv_aload_n C 0 0 dX11_apart_8 rfl rfl ?_
    refine hv_iload_n C 2 2 dX11_apart_9 rfl rfl ?_
    refine zt_callV [.int (iz b9)] [] C K cw_0 rfl (k_X11_isCalls l A τ b9 hA hR (by omega) hc) ck_X11_267 (by decide) ⟨Nat.zero_le _, Nat.zero_le _⟩ rfl (Nat.le_of_ble_eq_true rfl) dX11_apart_10 ?_
    refine hv_as (xb (decide (0 ≤ b9 ∧ b9 ≤ A 6 - 1))) rfl ?_
    refine hv_dif_ne C 18 dX11_apart_13 (by decide)  (fun h13 => ?_) (fun h13 => ?_)
    · skip
      obtain ⟨an, rfl⟩ : ∃ n9 : Nat, a = (n9 : Int) := ⟨(a).toNat, by omega⟩
      obtain ⟨bn, rfl⟩ : ∃ n9 : Nat, b9 = (n9 : Int) := ⟨(b9).toNat, by omega⟩
      have c1 := hci an (by omega)
      have c2 := hci bn (by omega)
      have d1 := (hR.calls an 1 (by omega) (by decide))
      have d2 := (hR.calls an 2 (by omega) (by decide))
      have d3 := (hR.calls bn 1 (by omega) (by decide))
      have d4 := (hR.calls bn 2 (by omega) (by decide))
      refine hv_aload_n C 0 0 dX11_apart_18 rfl rfl ?_
      refine zc_get C K (v := .ref (b + 1)) 0 rfl hu_12 (by decide) cw_0 rfl fl_X11_10 rfl dX11_apart_19 ?_
      refine zc_get C K (v := .ref (b + 11)) 17 rfl hu_9 (by decide) (cw_at 1 rfl) rfl fl_X11_264 rfl dX11_apart_22 ?_
      refine hv_iconst C dX11_apart_25 ?_
      refine hv_iload_n C 1 1 dX11_apart_26 rfl rfl ?_
      refine hv_imul C dX11_apart_27 ?_
      refine hv_iconst C dX11_apart_28 ?_
      refine hv_iadd C dX11_apart_29 ?_
      refine zc_iald C K (f := (τ 11)) ((3 * an) + 1) (cw_at 11 rfl) (by omega) (by omega) (by decide) dX11_apart_30 ?_
      refine hv_as (τ 11 ((3 * an) + 1)) rfl ?_
      refine hv_as ((A (630 + 3 * an + 1))) d1 ?_
      refine hv_i2l C (by omega) dX11_apart_31 ?_
      refine hv_lstore_n C 3 [(3, .long (lz (A (630 + 3 * an + 1)))), (0, .ref b), (1, .int (iz ((an : Nat) : Int))), (2, .int (iz ((bn : Nat) : Int)))] dX11_apart_32 rfl (by decide) rfl ?_
      refine hv_aload_n C 0 1 dX11_apart_33 rfl rfl ?_
      refine zc_get C K (v := .ref (b + 1)) 0 rfl hu_12 (by decide) cw_0 rfl fl_X11_10 rfl dX11_apart_34 ?_
      refine zc_get C K (v := .ref (b + 11)) 17 rfl hu_9 (by decide) (cw_at 1 rfl) rfl fl_X11_264 rfl dX11_apart_37 ?_
      refine hv_iconst C dX11_apart_40 ?_
      refine hv_iload_n C 2 3 dX11_apart_41 rfl rfl ?_
      refine hv_imul C dX11_apart_42 ?_
      refine hv_iconst C dX11_apart_43 ?_
      refine hv_iadd C dX11_apart_44 ?_
      refine zc_iald C K (f := (τ 11)) ((3 * bn) + 1) (cw_at 11 rfl) (by omega) (by omega) (by decide) dX11_apart_45 ?_
      refine hv_as (τ 11 ((3 * bn) + 1)) rfl ?_
      refine hv_as ((A (630 + 3 * bn + 1))) d3 ?_
      refine hv_i2l C (by omega) dX11_apart_46 ?_
      refine hv_lstore C 5 [(5, .long (lz (A (630 + 3 * bn + 1)))), (3, .long (lz (A (630 + 3 * an + 1)))), (0, .ref b), (1, .int (iz ((an : Nat) : Int))), (2, .int (iz ((bn : Nat) : Int)))] dX11_apart_47 (by decide) rfl ?_
      refine hv_aload_n C 0 2 dX11_apart_49 rfl rfl ?_
      refine zc_get C K (v := .ref (b + 1)) 0 rfl hu_12 (by decide) cw_0 rfl fl_X11_10 rfl dX11_apart_50 ?_
      refine zc_get C K (v := .ref (b + 11)) 17 rfl hu_9 (by decide) (cw_at 1 rfl) rfl fl_X11_264 rfl dX11_apart_53 ?_
      refine hv_iconst C dX11_apart_56 ?_
      refine hv_iload_n C 1 3 dX11_apart_57 rfl rfl ?_
      refine hv_imul C dX11_apart_58 ?_
      refine hv_iconst C dX11_apart_59 ?_
      refine hv_iadd C dX11_apart_60 ?_
      refine zc_iald C K (f := (τ 11)) ((3 * an) + 2) (cw_at 11 rfl) (by omega) (by omega) (by decide) dX11_apart_61 ?_
      refine hv_as (τ 11 ((3 * an) + 2)) rfl ?_
      refine hv_as ((A (630 + 3 * an + 2))) d2 ?_
      refine hv_i2l C (by omega) dX11_apart_62 ?_
      refine hv_lstore C 7 [(7, .long (lz (A (630 + 3 * an + 2)))), (5, .long (lz (A (630 + 3 * bn + 1)))), (3, .long (lz (A (630 + 3 * an + 1)))), (0, .ref b), (1, .int (iz ((an : Nat) : Int))), (2, .int (iz ((bn : Nat) : Int)))] dX11_apart_63 (by decide) rfl ?_
      refine hv_aload_n C 0 3 dX11_apart_65 rfl rfl ?_
      refine zc_get C K (v := .ref (b + 1)) 0 rfl hu_12 (by decide) cw_0 rfl fl_X11_10 rfl dX11_apart_66 ?_
      refine zc_get C K (v := .ref (b + 11)) 17 rfl hu_9 (by decide) (cw_at 1 rfl) rfl fl_X11_264 rfl dX11_apart_69 ?_
      refine hv_iconst C dX11_apart_72 ?_
      refine hv_iload_n C 2 5 dX11_apart_73 rfl rfl ?_
      refine hv_imul C dX11_apart_74 ?_
      refine hv_iconst C dX11_apart_75 ?_
      refine hv_iadd C dX11_apart_76 ?_
      refine zc_iald C K (f := (τ 11)) ((3 * bn) + 2) (cw_at 11 rfl) (by omega) (by omega) (by decide) dX11_apart_77 ?_
      refine hv_as (τ 11 ((3 * bn) + 2)) rfl ?_
      refine hv_as ((A (630 + 3 * bn + 2))) d4 ?_
      refine hv_i2l C (by omega) dX11_apart_78 ?_
      refine hv_lstore C 9 [(9, .long (lz (A (630 + 3 * bn + 2)))), (7, .long (lz (A (630 + 3 * an + 2)))), (5, .long (lz (A (630 + 3 * bn + 1)))), (3, .long (lz (A (630 + 3 * an + 1)))), (0, .ref b), (1, .int (iz ((an : Nat) : Int))), (2, .int (iz ((bn : Nat) : Int)))] dX11_apart_79 (by decide) rfl ?_
      refine hv_lload C 7 1 dX11_apart_81 rfl ?_
      refine hv_lload C 5 2 dX11_apart_83 rfl ?_
      refine hv_lmul C dX11_apart_85 ?_
      refine hv_lload C 9 0 dX11_apart_86 rfl ?_
      refine hv_lload_n C 3 3 dX11_apart_88 rfl rfl ?_
      refine hv_lmul C dX11_apart_89 ?_
      refine hv_lsub C dX11_apart_90 ?_
      refine hv_lstore C 11 [(11, .long (lz (((A (630 + 3 * an + 2)) * (A (630 + 3 * bn + 1))) - ((A (630 + 3 * bn + 2)) * (A (630 + 3 * an + 1)))))), (9, .long (lz (A (630 + 3 * bn + 2)))), (7, .long (lz (A (630 + 3 * an + 2)))), (5, .long (lz (A (630 + 3 * bn + 1)))), (3, .long (lz (A (630 + 3 * an + 1)))), (0, .ref b), (1, .int (iz ((an : Nat) : Int))), (2, .int (iz ((bn : Nat) : Int)))] dX11_apart_91 (by decide) rfl ?_
      refine hv_lload C 11 0 dX11_apart_93 rfl ?_
      refine hv_lload C 11 0 dX11_apart_95 rfl ?_
      refine hv_lmul C dX11_apart_97 ?_
      refine hv_lload_n C 3 4 dX11_apart_98 rfl rfl ?_
      refine hv_lload C 5 3 dX11_apart_99 rfl ?_
      refine hv_ladd C dX11_apart_101 ?_
      refine hv_lmul C dX11_apart_102 ?_
      refine hv_ldc2 C (n := 4) lc_X11_273 rfl dX11_apart_103 ?_
      refine hv_lload C 7 2 dX11_apart_106 rfl ?_
      refine hv_lload C 9 1 dX11_apart_108 rfl ?_
      refine hv_ladd C dX11_apart_110 ?_
      refine hv_lmul C dX11_apart_111 ?_
      refine hv_lload_n C 3 4 dX11_apart_112 rfl rfl ?_
      refine hv_lload C 5 3 dX11_apart_113 rfl ?_
      refine hv_ladd C dX11_apart_115 ?_
      refine hv_lload C 7 2 dX11_apart_116 rfl ?_
      refine hv_lsub C dX11_apart_118 ?_
      refine hv_lload C 9 1 dX11_apart_119 rfl ?_
      refine hv_lsub C dX11_apart_121 ?_
      refine hv_lmul C dX11_apart_122 ?_
      refine hv_lload_n C 3 4 dX11_apart_123 rfl rfl ?_
      refine hv_lmul C dX11_apart_124 ?_
      refine hv_lload C 5 3 dX11_apart_125 rfl ?_
      refine hv_lmul C dX11_apart_127 ?_
      refine hv_lcmp C (ap_x (by omega) (by omega) (by omega) (by omega)) (ap_y (by omega) (by omega) (by omega) (by omega)) dX11_apart_128 ?_
      refine hv_cif_le C 136 dX11_apart_129 (by decide)  (fun h129 => ?_) (fun h129 => ?_)
      · skip
        refine hv_iconst C dX11_apart_136 ?_
        exact zt_zret C hr hlk ((xb_f (by first | (simp only [Bool.and_eq_false_iff, decide_eq_false_iff_not]; left; omega) | (subst_vars; simp only [Int.toNat_natCast, Bool.and_eq_true, decide_eq_true_eq]; exact ⟨by omega, decide_eq_true h129⟩) | (subst_vars; simp only [Int.toNat_natCast, Bool.and_eq_false_iff]; right; exact decide_eq_false (Int.not_lt.mpr h129)))).symm) rfl dX11_apart_137
      · skip
        refine hv_iconst C dX11_apart_132 ?_
        refine hv_goto C 137 dX11_apart_133 (by decide) ?_
        exact zt_zret C hr hlk ((xb_t (by first | (simp only [Bool.and_eq_false_iff, decide_eq_false_iff_not]; left; omega) | (subst_vars; simp only [Int.toNat_natCast, Bool.and_eq_true, decide_eq_true_eq]; exact ⟨by omega, decide_eq_true h129⟩) | (subst_vars; simp only [Int.toNat_natCast, Bool.and_eq_false_iff]; right; exact decide_eq_false (Int.not_lt.mpr h129)))).symm) rfl dX11_apart_137
    · skip
      refine hv_iconst C dX11_apart_16 ?_
      exact zt_zret C hr hlk ((xb_f (by first | (simp only [Bool.and_eq_false_iff, decide_eq_false_iff_not]; left; omega) | (subst_vars; simp only [Int.toNat_natCast, Bool.and_eq_true, decide_eq_true_eq]; exact ⟨by omega, decide_eq_true h129⟩) | (subst_vars; simp only [Int.toNat_natCast, Bool.and_eq_false_iff]; right; exact decide_eq_false (Int.not_lt.mpr h129)))).symm) rfl dX11_apart_17
