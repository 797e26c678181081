/-- a method that leaves all but its scratch row as it was -/
def zx_M (l : Launch) (D : va_G) (ar : Nat → ClassId) (B : Nat → Prop) (b : Nat) (w0 : zcW) (n : Nat) (y : MethodName) (cc : ByteArray) (mL : Nat) (ret : Option FieldType) (fr lo : Nat) (as : List Value) (τ : Nat → Nat → Int) (r : Option Value) : Prop :=
  zc_M l D ar B y cc mL ret fr lo 0 0 as (cw ar b τ w0) n (fun r' w' n' => r' = r ∧ (∃ X, w' = cw ar b (sA τ 18 X) w0) ∧ n' = n)
section ZX
variable {p : Program} {l : Launch} {e : Env} {R : Room} {s : State} {m : MethodId} {args : Array Value} {below : List Frame} {meth : Method} {c : Code} {nL : Nat} {Q : State → Prop} {pc : Nat} {loc : List (Nat × Value)} {stk : List Value} {cc : ByteArray} {D : va_G} {ar : Nat → ClassId} {B : Nat → Prop} {b n : Nat} {w0 : zcW} {τ : Nat → Nat → Int} {H0 : Heap} {own : String} {cells slots : Nat}
theorem zx_callV {y : MethodName} {bytes : ByteArray} {maxL : Nat} {ret : Option FieldType} {fr lo idx a ci : Nat} {fs : List Value} {q : vw_C} {r : Option Value} (As rest : List Value) (C : CallFix p m c cc nL s args hk_tb own) (K : clK D ar s) (hw : cw ar b τ w0 a = some (.inr (ci, fs))) (hc : vwCl[ci]? = some q) (hM : zx_M l D ar B b w0 n y bytes maxL ret fr lo (.ref a :: As) τ r) (ck : zcV own q.1 y bytes maxL ret idx As.length) (hR : fr + 1 ≤ R.frames ∧ 8 + (maxL + 11) + lo ≤ R.locals) (hf : cells ≤ R.cells ∧ slots ≤ R.slots) (hs : stk = As.reverse ++ .ref a :: rest) (hW : (rest.map fun v => v.category).sum ≤ 8) (d : decode cc pc = .ok (.invokevirtual idx, 3)) (k : ∀ X, hvV p l e R s m args below meth c nL B cells slots Q (zc_I D B (cw ar b (sA τ 18 X) w0) n H0) (pc + 3) loc (r.toList ++ rest)) : hvV p l e R s m args below meth c nL B cells slots Q (zc_I D B (cw ar b τ w0) n H0) pc loc stk :=
  zc_callV As rest C K hw hc hM ck hR hf hs hW d (fun r' w' n' h => by obtain ⟨h1, ⟨X, h2⟩, h3⟩ := h; subst h1; subst h2; subst h3; exact k X)
theorem zx_iret (C : CallFix p m c cc nL s args hk_tb own) (hr : meth.sig.returnType = some .int) (hlk : meth.locks = false) {x v : Int} {τ0 : Nat → Nat → Int} (hx : x = v) (hs : ∃ X, τ = sA τ0 18 X) (d : decode cc pc = .ok (.ireturn, 1)) : hvV p l e R s m args below meth c nL B cells slots (MQ below (zc_Q D B (fun r' w' n' => r' = some (.int (iz v)) ∧ (∃ X, w' = cw ar b (sA τ0 18 X) w0) ∧ n' = n)) args s cells slots B) (zc_I D B (cw ar b τ w0) n s.heap) pc loc [.int (iz x)] := by
  obtain ⟨X, hX⟩ := hs
  subst hx; subst hX; exact zc_iret C hr hlk ⟨rfl, ⟨X, rfl⟩, rfl⟩ d
theorem zx_zret (C : CallFix p m c cc nL s args hk_tb own) (hr : meth.sig.returnType = some .boolean) (hlk : meth.locks = false) {x : Int} {v : Bool} {τ0 : Nat → Nat → Int} (hx : x = xb v) (hs : ∃ X, τ = sA τ0 18 X) (d : decode cc pc = .ok (.ireturn, 1)) : hvV p l e R s m args below meth c nL B cells slots (MQ below (zc_Q D B (fun r' w' n' => r' = some (.int (iz (xb v))) ∧ (∃ X, w' = cw ar b (sA τ0 18 X) w0) ∧ n' = n)) args s cells slots B) (zc_I D B (cw ar b τ w0) n s.heap) pc loc [.int (iz x)] := by
  obtain ⟨X, hX⟩ := hs
  subst hX; exact zc_zret C hr hlk hx ⟨rfl, ⟨X, rfl⟩, rfl⟩ d
end ZX

theorem dX8_lineFor_0 : decode cX8_lineFor 0 = .ok (.aload_n 0, 1) := by decide +kernel
theorem dX8_lineFor_1 : decode cX8_lineFor 1 = .ok (.getfield 18, 3) := by decide +kernel
theorem dX8_lineFor_4 : decode cX8_lineFor 4 = .ok (.iload_n 1, 1) := by decide +kernel
theorem dX8_lineFor_5 : decode cX8_lineFor 5 = .ok (.invokevirtual 104, 3) := by decide +kernel
theorem dX8_lineFor_8 : decode cX8_lineFor 8 = .ok (.checkcast 114, 3) := by decide +kernel
theorem dX8_lineFor_11 : decode cX8_lineFor 11 = .ok (.astore 5, 2) := by decide +kernel
theorem dX8_lineFor_13 : decode cX8_lineFor 13 = .ok (.iload_n 3, 1) := by decide +kernel
theorem dX8_lineFor_14 : decode cX8_lineFor 14 = .ok (.bipush 48, 2) := by decide +kernel
theorem dX8_lineFor_16 : decode cX8_lineFor 16 = .ok (.idiv, 1) := by decide +kernel
theorem dX8_lineFor_17 : decode cX8_lineFor 17 = .ok (.istore 6, 2) := by decide +kernel
theorem dX8_lineFor_19 : decode cX8_lineFor 19 = .ok (.aload_n 0, 1) := by decide +kernel
theorem dX8_lineFor_20 : decode cX8_lineFor 20 = .ok (.aload 5, 2) := by decide +kernel
theorem dX8_lineFor_22 : decode cX8_lineFor 22 = .ok (.getfield 151, 3) := by decide +kernel
theorem dX8_lineFor_25 : decode cX8_lineFor 25 = .ok (.iload_n 3, 1) := by decide +kernel
theorem dX8_lineFor_26 : decode cX8_lineFor 26 = .ok (.invokevirtual 154, 3) := by decide +kernel
theorem dX8_lineFor_29 : decode cX8_lineFor 29 = .ok (.istore 7, 2) := by decide +kernel
theorem dX8_lineFor_31 : decode cX8_lineFor 31 = .ok (.aload_n 0, 1) := by decide +kernel
theorem dX8_lineFor_32 : decode cX8_lineFor 32 = .ok (.getfield 67, 3) := by decide +kernel
theorem dX8_lineFor_35 : decode cX8_lineFor 35 = .ok (.iconst 0, 1) := by decide +kernel
theorem dX8_lineFor_36 : decode cX8_lineFor 36 = .ok (.aload_n 2, 1) := by decide +kernel
theorem dX8_lineFor_37 : decode cX8_lineFor 37 = .ok (.getfield 149, 3) := by decide +kernel
theorem dX8_lineFor_40 : decode cX8_lineFor 40 = .ok (.ifCond .eq 7, 3) := by decide +kernel
theorem dX8_lineFor_43 : decode cX8_lineFor 43 = .ok (.iconst 1, 1) := by decide +kernel
theorem dX8_lineFor_44 : decode cX8_lineFor 44 = .ok (.goto 4, 3) := by decide +kernel
theorem dX8_lineFor_47 : decode cX8_lineFor 47 = .ok (.iconst 0, 1) := by decide +kernel
theorem dX8_lineFor_48 : decode cX8_lineFor 48 = .ok (.iastore, 1) := by decide +kernel
theorem dX8_lineFor_49 : decode cX8_lineFor 49 = .ok (.aload_n 0, 1) := by decide +kernel
theorem dX8_lineFor_50 : decode cX8_lineFor 50 = .ok (.getfield 67, 3) := by decide +kernel
theorem dX8_lineFor_53 : decode cX8_lineFor 53 = .ok (.iconst 1, 1) := by decide +kernel
theorem dX8_lineFor_54 : decode cX8_lineFor 54 = .ok (.aload_n 0, 1) := by decide +kernel
theorem dX8_lineFor_55 : decode cX8_lineFor 55 = .ok (.aload 5, 2) := by decide +kernel
theorem dX8_lineFor_57 : decode cX8_lineFor 57 = .ok (.getfield 151, 3) := by decide +kernel
theorem dX8_lineFor_60 : decode cX8_lineFor 60 = .ok (.iload 6, 2) := by decide +kernel
theorem dX8_lineFor_62 : decode cX8_lineFor 62 = .ok (.invokevirtual 128, 3) := by decide +kernel
theorem dX8_lineFor_65 : decode cX8_lineFor 65 = .ok (.ifCond .eq 7, 3) := by decide +kernel
theorem dX8_lineFor_68 : decode cX8_lineFor 68 = .ok (.iconst 1, 1) := by decide +kernel
theorem dX8_lineFor_69 : decode cX8_lineFor 69 = .ok (.goto 4, 3) := by decide +kernel
theorem dX8_lineFor_72 : decode cX8_lineFor 72 = .ok (.iconst 0, 1) := by decide +kernel
theorem dX8_lineFor_73 : decode cX8_lineFor 73 = .ok (.iastore, 1) := by decide +kernel
theorem dX8_lineFor_74 : decode cX8_lineFor 74 = .ok (.aload_n 0, 1) := by decide +kernel
theorem dX8_lineFor_75 : decode cX8_lineFor 75 = .ok (.getfield 67, 3) := by decide +kernel
theorem dX8_lineFor_78 : decode cX8_lineFor 78 = .ok (.iconst 2, 1) := by decide +kernel
theorem dX8_lineFor_79 : decode cX8_lineFor 79 = .ok (.iload 7, 2) := by decide +kernel
theorem dX8_lineFor_81 : decode cX8_lineFor 81 = .ok (.bipush 48, 2) := by decide +kernel
theorem dX8_lineFor_83 : decode cX8_lineFor 83 = .ok (.invokestatic 158, 3) := by decide +kernel
theorem dX8_lineFor_86 : decode cX8_lineFor 86 = .ok (.iastore, 1) := by decide +kernel
theorem dX8_lineFor_87 : decode cX8_lineFor 87 = .ok (.aload_n 0, 1) := by decide +kernel
theorem dX8_lineFor_88 : decode cX8_lineFor 88 = .ok (.getfield 67, 3) := by decide +kernel
theorem dX8_lineFor_91 : decode cX8_lineFor 91 = .ok (.iconst 3, 1) := by decide +kernel
theorem dX8_lineFor_92 : decode cX8_lineFor 92 = .ok (.aload 5, 2) := by decide +kernel
theorem dX8_lineFor_94 : decode cX8_lineFor 94 = .ok (.getfield 163, 3) := by decide +kernel
theorem dX8_lineFor_97 : decode cX8_lineFor 97 = .ok (.iastore, 1) := by decide +kernel
theorem dX8_lineFor_98 : decode cX8_lineFor 98 = .ok (.aload_n 0, 1) := by decide +kernel
theorem dX8_lineFor_99 : decode cX8_lineFor 99 = .ok (.getfield 67, 3) := by decide +kernel
theorem dX8_lineFor_102 : decode cX8_lineFor 102 = .ok (.iconst 4, 1) := by decide +kernel
theorem dX8_lineFor_103 : decode cX8_lineFor 103 = .ok (.iconst 0, 1) := by decide +kernel
theorem dX8_lineFor_104 : decode cX8_lineFor 104 = .ok (.iload 6, 2) := by decide +kernel
theorem dX8_lineFor_106 : decode cX8_lineFor 106 = .ok (.aload_n 2, 1) := by decide +kernel
theorem dX8_lineFor_107 : decode cX8_lineFor 107 = .ok (.getfield 148, 3) := by decide +kernel
theorem dX8_lineFor_110 : decode cX8_lineFor 110 = .ok (.isub, 1) := by decide +kernel
theorem dX8_lineFor_111 : decode cX8_lineFor 111 = .ok (.invokestatic 166, 3) := by decide +kernel
theorem dX8_lineFor_114 : decode cX8_lineFor 114 = .ok (.iastore, 1) := by decide +kernel
theorem dX8_lineFor_115 : decode cX8_lineFor 115 = .ok (.aload_n 0, 1) := by decide +kernel
theorem dX8_lineFor_116 : decode cX8_lineFor 116 = .ok (.getfield 67, 3) := by decide +kernel
theorem dX8_lineFor_119 : decode cX8_lineFor 119 = .ok (.iconst 5, 1) := by decide +kernel
theorem dX8_lineFor_120 : decode cX8_lineFor 120 = .ok (.aload 5, 2) := by decide +kernel
theorem dX8_lineFor_122 : decode cX8_lineFor 122 = .ok (.getfield 151, 3) := by decide +kernel
theorem dX8_lineFor_125 : decode cX8_lineFor 125 = .ok (.iastore, 1) := by decide +kernel
theorem dX8_lineFor_126 : decode cX8_lineFor 126 = .ok (.aload_n 0, 1) := by decide +kernel
theorem dX8_lineFor_127 : decode cX8_lineFor 127 = .ok (.getfield 67, 3) := by decide +kernel
theorem dX8_lineFor_130 : decode cX8_lineFor 130 = .ok (.bipush 6, 2) := by decide +kernel
theorem dX8_lineFor_132 : decode cX8_lineFor 132 = .ok (.aload_n 2, 1) := by decide +kernel
theorem dX8_lineFor_133 : decode cX8_lineFor 133 = .ok (.getfield 169, 3) := by decide +kernel
theorem dX8_lineFor_136 : decode cX8_lineFor 136 = .ok (.iastore, 1) := by decide +kernel
theorem dX8_lineFor_137 : decode cX8_lineFor 137 = .ok (.aload_n 0, 1) := by decide +kernel
theorem dX8_lineFor_138 : decode cX8_lineFor 138 = .ok (.getfield 67, 3) := by decide +kernel
theorem dX8_lineFor_141 : decode cX8_lineFor 141 = .ok (.bipush 7, 2) := by decide +kernel
theorem dX8_lineFor_143 : decode cX8_lineFor 143 = .ok (.aload_n 2, 1) := by decide +kernel
theorem dX8_lineFor_144 : decode cX8_lineFor 144 = .ok (.getfield 172, 3) := by decide +kernel
theorem dX8_lineFor_147 : decode cX8_lineFor 147 = .ok (.iastore, 1) := by decide +kernel
theorem dX8_lineFor_148 : decode cX8_lineFor 148 = .ok (.aload_n 0, 1) := by decide +kernel
theorem dX8_lineFor_149 : decode cX8_lineFor 149 = .ok (.getfield 67, 3) := by decide +kernel
theorem dX8_lineFor_152 : decode cX8_lineFor 152 = .ok (.bipush 8, 2) := by decide +kernel
theorem dX8_lineFor_154 : decode cX8_lineFor 154 = .ok (.iload 7, 2) := by decide +kernel
theorem dX8_lineFor_156 : decode cX8_lineFor 156 = .ok (.bipush 48, 2) := by decide +kernel
theorem dX8_lineFor_158 : decode cX8_lineFor 158 = .ok (.invokestatic 175, 3) := by decide +kernel
theorem dX8_lineFor_161 : decode cX8_lineFor 161 = .ok (.bipush 7, 2) := by decide +kernel
theorem dX8_lineFor_163 : decode cX8_lineFor 163 = .ok (.iadd, 1) := by decide +kernel
theorem dX8_lineFor_164 : decode cX8_lineFor 164 = .ok (.bipush 7, 2) := by decide +kernel
theorem dX8_lineFor_166 : decode cX8_lineFor 166 = .ok (.irem, 1) := by decide +kernel
theorem dX8_lineFor_167 : decode cX8_lineFor 167 = .ok (.iastore, 1) := by decide +kernel
theorem dX8_lineFor_168 : decode cX8_lineFor 168 = .ok (.aload_n 0, 1) := by decide +kernel
theorem dX8_lineFor_169 : decode cX8_lineFor 169 = .ok (.getfield 53, 3) := by decide +kernel
theorem dX8_lineFor_172 : decode cX8_lineFor 172 = .ok (.aload_n 2, 1) := by decide +kernel
theorem dX8_lineFor_173 : decode cX8_lineFor 173 = .ok (.getfield 178, 3) := by decide +kernel
theorem dX8_lineFor_176 : decode cX8_lineFor 176 = .ok (.aaload, 1) := by decide +kernel
theorem dX8_lineFor_177 : decode cX8_lineFor 177 = .ok (.aload_n 0, 1) := by decide +kernel
theorem dX8_lineFor_178 : decode cX8_lineFor 178 = .ok (.getfield 67, 3) := by decide +kernel
theorem dX8_lineFor_181 : decode cX8_lineFor 181 = .ok (.iload 4, 2) := by decide +kernel
theorem dX8_lineFor_183 : decode cX8_lineFor 183 = .ok (.invokevirtual 179, 3) := by decide +kernel
theorem dX8_lineFor_186 : decode cX8_lineFor 186 = .ok (.ireturn, 1) := by decide +kernel
theorem fl_X8_18 : Cond.fieldLink RX8 18 "HookUps$Told" (TX8 2).2.1 (TX8 2).2.2.1 ∈ hk_tb := hk_tq1 129 (by decide +kernel) (by decide +kernel)
theorem cl_X8_114 : Cond.classLink RX8 114 RX7 ∈ hk_tb := hk_tq4 73 (by decide +kernel) (by decide +kernel)
theorem fl_X8_151 : Cond.fieldLink RX8 151 "HookUps$Station" (TX7 1).2.1 (TX7 1).2.2.1 ∈ hk_tb := hk_tq2 211 (by decide +kernel) (by decide +kernel)
theorem ck_X8_154 : zcV RX8 RX8 yX8_localPlace cX8_localPlace 4 (some .int) 154 2 := ⟨hk_tq2 238 (by decide +kernel) (by decide +kernel), hk_tq4 74 (by decide +kernel) (by decide +kernel), hk_tq1 2 (by decide +kernel) (by decide +kernel), ⟨by decide, by decide, by decide +kernel⟩, hk_tq2 236 (by decide +kernel) (by decide +kernel), hk_tq2 237 (by decide +kernel) (by decide +kernel)⟩
theorem fl_X8_67 : Cond.fieldLink RX8 67 "HookUps$Told" (TX8 19).2.1 (TX8 19).2.2.1 ∈ hk_tb := hk_tq1 165 (by decide +kernel) (by decide +kernel)
theorem ck_X8_158 : zcS RX8 yJ9_floorMod_7cf53 cJ9_floorMod_7cf53 3 (some .int) 158 2 := ⟨hk_tq4 77 (by decide +kernel) (by decide +kernel), hk_tq4 75 (by decide +kernel) (by decide +kernel), hk_tq1 14 (by decide +kernel) (by decide +kernel), ⟨by decide, by decide, by decide +kernel⟩, hk_tq4 76 (by decide +kernel) (by decide +kernel)⟩
theorem fl_X8_163 : Cond.fieldLink RX8 163 "HookUps$Station" (TX7 2).2.1 (TX7 2).2.2.1 ∈ hk_tb := hk_tq2 213 (by decide +kernel) (by decide +kernel)
theorem ck_X8_166 : zcS RX8 yJ9_max_7cf53 cJ9_max_7cf53 2 (some .int) 166 2 := ⟨hk_tq2 155 (by decide +kernel) (by decide +kernel), hk_tq4 78 (by decide +kernel) (by decide +kernel), hk_tq1 14 (by decide +kernel) (by decide +kernel), ⟨by decide, by decide, by decide +kernel⟩, hk_tq2 154 (by decide +kernel) (by decide +kernel)⟩
theorem fl_X8_169 : Cond.fieldLink RX8 169 "HookUps$Hour" (TX3 4).2.1 (TX3 4).2.2.1 ∈ hk_tb := hk_tq3 106 (by decide +kernel) (by decide +kernel)
theorem fl_X8_172 : Cond.fieldLink RX8 172 "HookUps$Hour" (TX3 2).2.1 (TX3 2).2.2.1 ∈ hk_tb := hk_tq3 100 (by decide +kernel) (by decide +kernel)
theorem ck_X8_175 : zcS RX8 yJ9_floorDiv_7cf53 cJ9_floorDiv_7cf53 3 (some .int) 175 2 := ⟨hk_tq4 81 (by decide +kernel) (by decide +kernel), hk_tq4 79 (by decide +kernel) (by decide +kernel), hk_tq1 14 (by decide +kernel) (by decide +kernel), ⟨by decide, by decide, by decide +kernel⟩, hk_tq4 80 (by decide +kernel) (by decide +kernel)⟩
theorem fl_X8_53 : Cond.fieldLink RX8 53 "HookUps$Told" (TX8 15).2.1 (TX8 15).2.2.1 ∈ hk_tb := hk_tq1 157 (by decide +kernel) (by decide +kernel)
theorem fl_X8_178 : Cond.fieldLink RX8 178 "HookUps$Hour" (TX3 0).2.1 (TX3 0).2.2.1 ∈ hk_tb := hk_tq3 94 (by decide +kernel) (by decide +kernel)
theorem ck_X8_179 : zcV RX8 RX1 yX1_firstLine cX1_firstLine 5 (some .int) 179 2 := ⟨hk_tq4 85 (by decide +kernel) (by decide +kernel), hk_tq4 82 (by decide +kernel) (by decide +kernel), hk_tq1 7 (by decide +kernel) (by decide +kernel), ⟨by decide, by decide, by decide +kernel⟩, hk_tq4 83 (by decide +kernel) (by decide +kernel), hk_tq4 84 (by decide +kernel) (by decide +kernel)⟩
set_option maxRecDepth 100000 in
set_option maxHeartbeats 4000000 in
theorem k_X8_lineFor (l : Launch) {D : va_G} {ar : Nat → ClassId} {B : Nat → Prop} {b n : Nat} {w0 : zcW} (A : Nat → Int) (i9 p9 : Nat) (i8 : Int) (τ : Nat → Nat → Int) (st : Nat) (q : Int) (pay : Bool) (hA : ∀ i, inI (A i)) (hR : Rel9 ar b w0 A τ) (ho : ob9 b w0 p9 4 (fHour A i9)) (hs : si A) (hh : hi A) (hl : li A) (hlj : lj9 A) (hc : cn A) (h1 : (st : Int) < A 2) (h2 : (i9 : Int) < A 4) (hq : q = 48 * A (280 + 8 * i9 + 1) + A (280 + 8 * i9 + 2) + i8 ∧ 0 ≤ i8 ∧ i8 ≤ 3 ∧ A (280 + 8 * i9 + 2) + i8 ≤ 47) : zx_M l D ar B b w0 n yX8_lineFor cX8_lineFor 8 (some .int) 3 71 [.ref (b + 1), .int (iz ((st : Nat) : Int)), .ref p9, .int (iz q), .int (iz (xb (pay)))] τ (some (.int (iz (line A st i9 i8 pay)))) := by
  refine zc_start (own := RX8) (by decide +kernel) rfl (Nat.le_of_ble_eq_true rfl) ?_
  intro p e s m args below meth c C K hr hlk hnam
  have n3 := hR.l3.1
  have hhk := hh i9 h2
  have hsk := hs st h1
  refine hv_aload_n C 0 0 dX8_lineFor_0 rfl rfl ?_
  refine zc_get C K (v := .ref (b + 3)) 2 rfl hu_9 (by decide) (cw_at 1 rfl) rfl fl_X8_18 rfl dX8_lineFor_1 ?_
  refine hv_iload_n C 1 1 dX8_lineFor_4 rfl rfl ?_
  obtain ⟨p1, i1, o1⟩ := (hR : Rel9 ar b w0 A τ).l3.2 st (by omega)
  refine zt_callV [.int (iz ((st : Nat) : Int))] [] C K (cw_at 3 rfl) rfl (k_Jx4a65c_get_915e3 l 3 p1 τ st rfl i1) ck_X8_104 (by decide) ⟨Nat.zero_le _, Nat.zero_le _⟩ rfl (Nat.le_of_ble_eq_true rfl) dX8_lineFor_5 ?_
  refine zc_cast C K (cw_ob o1) (hc := rfl) cl_X8_114 dX8_lineFor_8 ?_
  refine hv_astore C 5 [(5, .ref p1), (0, .ref (b + 1)), (1, .int (iz ((st : Nat) : Int))), (2, .ref p9), (3, .int (iz q)), (4, .int (iz (xb (pay))))] dX8_lineFor_11 (by decide) rfl ?_
  refine hv_iload_n C 3 4 dX8_lineFor_13 rfl rfl ?_
  refine hv_bipush C dX8_lineFor_14 (by decide) ?_
  refine hv_idiv C (by omega) (by omega) (by omega) (by omega) dX8_lineFor_16 ?_
  refine hv_istore C 6 [(6, .int (iz (q / 48))), (5, .ref p1), (0, .ref (b + 1)), (1, .int (iz ((st : Nat) : Int))), (2, .ref p9), (3, .int (iz q)), (4, .int (iz (xb (pay))))] dX8_lineFor_17 (by decide) rfl ?_
  refine hv_aload_n C 0 2 dX8_lineFor_19 rfl rfl ?_
  refine hv_aload C 5 1 dX8_lineFor_20 rfl ?_
  refine zc_get C K (v := .int (iz (A (80 + 4 * st + 1)))) 1 rfl hu_8 (by decide) (cw_ob o1) rfl fl_X8_151 rfl dX8_lineFor_22 ?_
  refine hv_nm (fun x2 ex2 => ?_)
  have rx2 : inI x2 := by rw [ex2]; exact (hA _)
  obtain ⟨zN, rfl⟩ : ∃ n9 : Nat, x2 = (n9 : Int) := ⟨(x2).toNat, by omega⟩
  have zzo : zo A st = zN := by unfold zo; omega
  refine hv_iload_n C 3 5 dX8_lineFor_25 rfl rfl ?_
  refine zt_callV [.int (iz ((zN : Nat) : Int)), .int (iz q)] [] C K (cw_at 1 rfl) rfl (k_X8_localPlace l A τ zN q hA hR (by omega) (by omega)) ck_X8_154 (by decide) ⟨Nat.zero_le _, Nat.zero_le _⟩ rfl (Nat.le_of_ble_eq_true rfl) dX8_lineFor_26 ?_
  refine hv_as ((lo A zN (q / 48) (q % 48))) rfl ?_
  refine hv_nm (fun x3 ex3 => ?_)
  have zlo : -6 ≤ x3 ∧ x3 ≤ 9800 := by rw [ex3]; unfold lo; split <;> omega
  have zpl : x3 = pl A st i9 i8 := by rw [ex3]; unfold pl; rw [show q / 48 = A (280 + 8 * i9 + 1) by omega, show q % 48 = A (280 + 8 * i9 + 2) + i8 by omega, zzo]
  refine hv_istore C 7 [(7, .int (iz x3)), (6, .int (iz (q / 48))), (5, .ref p1), (0, .ref (b + 1)), (1, .int (iz ((st : Nat) : Int))), (2, .ref p9), (3, .int (iz q)), (4, .int (iz (xb (pay))))] dX8_lineFor_29 (by decide) rfl ?_
  refine hv_aload_n C 0 3 dX8_lineFor_31 rfl rfl ?_
  refine zc_get C K (v := .ref (b + 18)) 19 rfl hu_9 (by decide) (cw_at 1 rfl) rfl fl_X8_67 rfl dX8_lineFor_32 ?_
  refine hv_iconst C dX8_lineFor_35 ?_
  refine hv_aload_n C 2 5 dX8_lineFor_36 rfl rfl ?_
  refine zc_get C K (v := .int (iz (A (280 + 8 * i9 + 6)))) 5 rfl hu_4 (by decide) (cw_ob ho) rfl fl_X8_149 rfl dX8_lineFor_37 ?_
  refine hv_nm (fun x4 ex4 => ?_)
  have rx4 : inI x4 := by rw [ex4]; exact (hA _)
  refine hv_if_eq C 47 dX8_lineFor_40 (by decide) (by omega) (fun h40 => ?_) (fun h40 => ?_)
  · skip
    refine hv_iconst C dX8_lineFor_47 ?_
    refine zc_iast C K (f := (τ 18)) 0 (cw_at 18 rfl) (cw_set 18 0 0 rfl) (by omega) (by omega) (by decide) dX8_lineFor_48 ?_
    refine zt_st (τ2 := sA τ 18 (ua (τ 18) 0 0)) (by rw [u2_sA]; first | done | rfl) ?_
    refine hv_aload_n C 0 3 dX8_lineFor_49 rfl rfl ?_
    refine zc_get C K (v := .ref (b + 18)) 19 rfl hu_9 (by decide) (cw_at 1 rfl) rfl fl_X8_67 rfl dX8_lineFor_50 ?_
    refine hv_iconst C dX8_lineFor_53 ?_
    refine hv_aload_n C 0 3 dX8_lineFor_54 rfl rfl ?_
    refine hv_aload C 5 2 dX8_lineFor_55 rfl ?_
    refine zc_get C K (v := .int (iz (A (80 + 4 * st + 1)))) 1 rfl hu_8 (by decide) (cw_ob o1) rfl fl_X8_151 rfl dX8_lineFor_57 ?_
    refine hv_nm (fun x5 ex5 => ?_)
    have rx5 : inI x5 := by rw [ex5]; exact (hA _)
    refine hv_as (((zN : Nat) : Int)) (by omega) ?_
    refine hv_iload C 6 1 dX8_lineFor_60 rfl ?_
    refine zt_callV [.int (iz ((zN : Nat) : Int)), .int (iz (q / 48))] [.int (iz 1), .ref (b + 18)] C K (cw_at 1 rfl) rfl (k_X8_isSummer l A (sA τ 18 (ua (τ 18) 0 0)) zN (q / 48) hA (by repeat (first | exact hR | refine rl_sA (by decide) ?_)) (by omega) (by omega)) ck_X8_128 (by decide) ⟨Nat.zero_le _, Nat.zero_le _⟩ rfl (Nat.le_of_ble_eq_true rfl) dX8_lineFor_62 ?_
    refine hv_as (xb (decide (A (20 + 2 * zN) ≤ (q / 48) ∧ (q / 48) ≤ A (20 + 2 * zN + 1)))) rfl ?_
    refine hv_dif_eq C 72 dX8_lineFor_65 (by decide)  (fun h65 => ?_) (fun h65 => ?_)
    · skip
      refine hv_iconst C dX8_lineFor_72 ?_
      refine zc_iast C K (f := (ua (τ 18) 0 0)) 1 (cw_at 18 rfl) (cw_set 18 1 0 rfl) (by omega) (by omega) (by decide) dX8_lineFor_73 ?_
      refine zt_st (τ2 := sA τ 18 (ua (ua (τ 18) 0 0) 1 0)) (by rw [u2_sA, sA_sA]; first | done | rfl) ?_
      refine hv_aload_n C 0 3 dX8_lineFor_74 rfl rfl ?_
      refine zc_get C K (v := .ref (b + 18)) 19 rfl hu_9 (by decide) (cw_at 1 rfl) rfl fl_X8_67 rfl dX8_lineFor_75 ?_
      refine hv_iconst C dX8_lineFor_78 ?_
      refine hv_iload C 7 0 dX8_lineFor_79 rfl ?_
      refine hv_bipush C dX8_lineFor_81 (by decide) ?_
      refine zt_callS [.int (iz x3), .int (iz 48)] [.int (iz 2), .ref (b + 18)] C K (k_J9_floorMod_7cf53 l  (sA τ 18 (ua (ua (τ 18) 0 0) 1 0)) x3 (by omega)) ck_X8_158 (by decide) ⟨Nat.zero_le _, Nat.zero_le _⟩ rfl (Nat.le_of_ble_eq_true rfl) dX8_lineFor_83 ?_
      refine hv_as ((x3 % 48)) rfl ?_
      refine zc_iast C K (f := (ua (ua (τ 18) 0 0) 1 0)) 2 (cw_at 18 rfl) (cw_set 18 2 (x3 % 48) rfl) (by omega) (by omega) (by decide) dX8_lineFor_86 ?_
      refine zt_st (τ2 := sA τ 18 (ua (ua (ua (τ 18) 0 0) 1 0) 2 (x3 % 48))) (by rw [u2_sA, sA_sA]; first | done | rfl) ?_
      refine hv_aload_n C 0 3 dX8_lineFor_87 rfl rfl ?_
      refine zc_get C K (v := .ref (b + 18)) 19 rfl hu_9 (by decide) (cw_at 1 rfl) rfl fl_X8_67 rfl dX8_lineFor_88 ?_
      refine hv_iconst C dX8_lineFor_91 ?_
      refine hv_aload C 5 2 dX8_lineFor_92 rfl ?_
      refine zc_get C K (v := .int (iz (A (80 + 4 * st + 2)))) 2 rfl hu_8 (by decide) (cw_ob o1) rfl fl_X8_163 rfl dX8_lineFor_94 ?_
      refine hv_nm (fun x6 ex6 => ?_)
      have rx6 : inI x6 := by rw [ex6]; exact (hA _)
      refine zc_iast C K (f := (ua (ua (ua (τ 18) 0 0) 1 0) 2 (x3 % 48))) 3 (cw_at 18 rfl) (cw_set 18 3 x6 rfl) (by omega) (by omega) (by decide) dX8_lineFor_97 ?_
      refine zt_st (τ2 := sA τ 18 (ua (ua (ua (ua (τ 18) 0 0) 1 0) 2 (x3 % 48)) 3 x6)) (by rw [u2_sA, sA_sA]; first | done | rfl) ?_
      refine hv_aload_n C 0 3 dX8_lineFor_98 rfl rfl ?_
      refine zc_get C K (v := .ref (b + 18)) 19 rfl hu_9 (by decide) (cw_at 1 rfl) rfl fl_X8_67 rfl dX8_lineFor_99 ?_
      refine hv_iconst C dX8_lineFor_102 ?_
      refine hv_iconst C dX8_lineFor_103 ?_
      refine hv_iload C 6 1 dX8_lineFor_104 rfl ?_
      refine hv_aload_n C 2 5 dX8_lineFor_106 rfl rfl ?_
      refine zc_get C K (v := .int (iz (A (280 + 8 * i9 + 7)))) 6 rfl hu_4 (by decide) (cw_ob ho) rfl fl_X8_148 rfl dX8_lineFor_107 ?_
      refine hv_nm (fun x7 ex7 => ?_)
      have rx7 : inI x7 := by rw [ex7]; exact (hA _)
      refine hv_isub C dX8_lineFor_110 ?_
      refine zt_callS [.int (iz 0), .int (iz ((q / 48) - x7))] [.int (iz 4), .ref (b + 18)] C K (k_J9_max_7cf53 l  (sA τ 18 (ua (ua (ua (ua (τ 18) 0 0) 1 0) 2 (x3 % 48)) 3 x6)) 0 ((q / 48) - x7) (by omega) (by omega)) ck_X8_166 (by decide) ⟨Nat.zero_le _, Nat.zero_le _⟩ rfl (Nat.le_of_ble_eq_true rfl) dX8_lineFor_111 ?_
      refine hv_as ((if 0 < ((q / 48) - x7) then ((q / 48) - x7) else 0)) rfl ?_
      refine hv_nm (fun x8 ex8 => ?_)
      have zmx : (0 < (q / 48 - A (280 + 8 * i9 + 7)) ∧ x8 = (q / 48 - A (280 + 8 * i9 + 7))) ∨ ((q / 48 - A (280 + 8 * i9 + 7)) ≤ 0 ∧ x8 = 0) := by rw [ex8]; first | (split <;> omega) | (subst_vars; split <;> omega)
      refine zc_iast C K (f := (ua (ua (ua (ua (τ 18) 0 0) 1 0) 2 (x3 % 48)) 3 x6)) 4 (cw_at 18 rfl) (cw_set 18 4 x8 rfl) (by omega) (by omega) (by decide) dX8_lineFor_114 ?_
      refine zt_st (τ2 := sA τ 18 (ua (ua (ua (ua (ua (τ 18) 0 0) 1 0) 2 (x3 % 48)) 3 x6) 4 x8)) (by rw [u2_sA, sA_sA]; first | done | rfl) ?_
      refine hv_aload_n C 0 3 dX8_lineFor_115 rfl rfl ?_
      refine zc_get C K (v := .ref (b + 18)) 19 rfl hu_9 (by decide) (cw_at 1 rfl) rfl fl_X8_67 rfl dX8_lineFor_116 ?_
      refine hv_iconst C dX8_lineFor_119 ?_
      refine hv_aload C 5 2 dX8_lineFor_120 rfl ?_
      refine zc_get C K (v := .int (iz (A (80 + 4 * st + 1)))) 1 rfl hu_8 (by decide) (cw_ob o1) rfl fl_X8_151 rfl dX8_lineFor_122 ?_
      refine hv_nm (fun x9 ex9 => ?_)
      have rx9 : inI x9 := by rw [ex9]; exact (hA _)
      refine zc_iast C K (f := (ua (ua (ua (ua (ua (τ 18) 0 0) 1 0) 2 (x3 % 48)) 3 x6) 4 x8)) 5 (cw_at 18 rfl) (cw_set 18 5 x9 rfl) (by omega) (by omega) (by decide) dX8_lineFor_125 ?_
      refine zt_st (τ2 := sA τ 18 (ua (ua (ua (ua (ua (ua (τ 18) 0 0) 1 0) 2 (x3 % 48)) 3 x6) 4 x8) 5 x9)) (by rw [u2_sA, sA_sA]; first | done | rfl) ?_
      refine hv_aload_n C 0 3 dX8_lineFor_126 rfl rfl ?_
      refine zc_get C K (v := .ref (b + 18)) 19 rfl hu_9 (by decide) (cw_at 1 rfl) rfl fl_X8_67 rfl dX8_lineFor_127 ?_
      refine hv_bipush C dX8_lineFor_130 (by decide) ?_
      refine hv_aload_n C 2 5 dX8_lineFor_132 rfl rfl ?_
      refine zc_get C K (v := .int (iz (A (280 + 8 * i9 + 5)))) 4 rfl hu_4 (by decide) (cw_ob ho) rfl fl_X8_169 rfl dX8_lineFor_133 ?_
      refine hv_nm (fun x10 ex10 => ?_)
      have rx10 : inI x10 := by rw [ex10]; exact (hA _)
      refine zc_iast C K (f := (ua (ua (ua (ua (ua (ua (τ 18) 0 0) 1 0) 2 (x3 % 48)) 3 x6) 4 x8) 5 x9)) 6 (cw_at 18 rfl) (cw_set 18 6 x10 rfl) (by omega) (by omega) (by decide) dX8_lineFor_136 ?_
      refine zt_st (τ2 := sA τ 18 (ua (ua (ua (ua (ua (ua (ua (τ 18) 0 0) 1 0) 2 (x3 % 48)) 3 x6) 4 x8) 5 x9) 6 x10)) (by rw [u2_sA, sA_sA]; first | done | rfl) ?_
      refine hv_aload_n C 0 3 dX8_lineFor_137 rfl rfl ?_
      refine zc_get C K (v := .ref (b + 18)) 19 rfl hu_9 (by decide) (cw_at 1 rfl) rfl fl_X8_67 rfl dX8_lineFor_138 ?_
      refine hv_bipush C dX8_lineFor_141 (by decide) ?_
      refine hv_aload_n C 2 5 dX8_lineFor_143 rfl rfl ?_
      refine zc_get C K (v := .int (iz (A (280 + 8 * i9 + 3)))) 2 rfl hu_4 (by decide) (cw_ob ho) rfl fl_X8_172 rfl dX8_lineFor_144 ?_
      refine hv_nm (fun x11 ex11 => ?_)
      have rx11 : inI x11 := by rw [ex11]; exact (hA _)
      refine zc_iast C K (f := (ua (ua (ua (ua (ua (ua (ua (τ 18) 0 0) 1 0) 2 (x3 % 48)) 3 x6) 4 x8) 5 x9) 6 x10)) 7 (cw_at 18 rfl) (cw_set 18 7 x11 rfl) (by omega) (by omega) (by decide) dX8_lineFor_147 ?_
      refine zt_st (τ2 := sA τ 18 (ua (ua (ua (ua (ua (ua (ua (ua (τ 18) 0 0) 1 0) 2 (x3 % 48)) 3 x6) 4 x8) 5 x9) 6 x10) 7 x11)) (by rw [u2_sA, sA_sA]; first | done | rfl) ?_
      refine hv_aload_n C 0 3 dX8_lineFor_148 rfl rfl ?_
      refine zc_get C K (v := .ref (b + 18)) 19 rfl hu_9 (by decide) (cw_at 1 rfl) rfl fl_X8_67 rfl dX8_lineFor_149 ?_
      refine hv_bipush C dX8_lineFor_152 (by decide) ?_
      refine hv_iload C 7 0 dX8_lineFor_154 rfl ?_
      refine hv_bipush C dX8_lineFor_156 (by decide) ?_
      refine zt_callS [.int (iz x3), .int (iz 48)] [.int (iz 8), .ref (b + 18)] C K (k_J9_floorDiv_7cf53 l  (sA τ 18 (ua (ua (ua (ua (ua (ua (ua (ua (τ 18) 0 0) 1 0) 2 (x3 % 48)) 3 x6) 4 x8) 5 x9) 6 x10) 7 x11)) x3 (by omega)) ck_X8_175 (by decide) ⟨Nat.zero_le _, Nat.zero_le _⟩ rfl (Nat.le_of_ble_eq_true rfl) dX8_lineFor_158 ?_
      refine hv_as ((x3 / 48)) rfl ?_
      refine hv_bipush C dX8_lineFor_161 (by decide) ?_
      refine hv_iadd C dX8_lineFor_163 ?_
      refine hv_bipush C dX8_lineFor_164 (by decide) ?_
      refine hv_irem C (by omega) (by omega) (by omega) (by omega) dX8_lineFor_166 ?_
      refine zc_iast C K (f := (ua (ua (ua (ua (ua (ua (ua (ua (τ 18) 0 0) 1 0) 2 (x3 % 48)) 3 x6) 4 x8) 5 x9) 6 x10) 7 x11)) 8 (cw_at 18 rfl) (cw_set 18 8 (((x3 / 48) + 7) % 7) rfl) (by omega) (by omega) (by decide) dX8_lineFor_167 ?_
      refine zt_st (τ2 := sA τ 18 (ua (ua (ua (ua (ua (ua (ua (ua (ua (τ 18) 0 0) 1 0) 2 (x3 % 48)) 3 x6) 4 x8) 5 x9) 6 x10) 7 x11) 8 (((x3 / 48) + 7) % 7))) (by rw [u2_sA, sA_sA]; first | done | rfl) ?_
      obtain ⟨F9, eF9⟩ : ∃ xq9 : Nat → Int, xq9 = (ua (ua (ua (ua (ua (ua (ua (ua (ua (τ 18) 0 0) 1 0) 2 (x3 % 48)) 3 x6) 4 x8) 5 x9) 6 x10) 7 x11) 8 (((x3 / 48) + 7) % 7)) := ⟨_, rfl⟩
      refine zt_st (τ2 := sA τ 18 F9) (by rw [eF9]) ?_
      have zv0 : F9 0 = 0 := by rw [eF9]; rfl
      have zv1 : F9 1 = 0 := by rw [eF9]; rfl
      have zv2 : F9 2 = (x3 % 48) := by rw [eF9]; rfl
      have zv3 : F9 3 = x6 := by rw [eF9]; rfl
      have zv4 : F9 4 = x8 := by rw [eF9]; rfl
      have zv5 : F9 5 = x9 := by rw [eF9]; rfl
      have zv6 : F9 6 = x10 := by rw [eF9]; rfl
      have zv7 : F9 7 = x11 := by rw [eF9]; rfl
      have zv8 : F9 8 = (((x3 / 48) + 7) % 7) := by rw [eF9]; rfl
      have hF9 : ∀ q9 : Nat, q9 < 9 → F9 q9 = ask A ((q9 : Int) + 1) st i9 i8 ∧ 0 ≤ F9 q9 ∧ F9 q9 ≤ 300 := by
        intro q9 hq9
        have zar := ask_rng (s := st) (h := i9) (i := i8) ((q9 : Int) + 1) hs hh h1 h2 (by omega)
        have ze : F9 q9 = ask A ((q9 : Int) + 1) st i9 i8 := by
          rcases (by omega : q9 = 0 ∨ q9 = 1 ∨ q9 = 2 ∨ q9 = 3 ∨ q9 = 4 ∨ q9 = 5 ∨ q9 = 6 ∨ q9 = 7 ∨ q9 = 8) with e9 | e9 | e9 | e9 | e9 | e9 | e9 | e9 | e9
          · subst e9; rw [zv0]; show _ = (if A (280 + 8 * i9 + 6) = 0 then 0 else 1); first | (rw [if_pos (by omega)]; done) | (rw [if_neg (by omega)]; done)
          · subst e9; rw [zv1]; show _ = (if A (20 + 2 * zo A st) ≤ A (280 + 8 * i9 + 1) ∧ A (280 + 8 * i9 + 1) ≤ A (20 + 2 * zo A st + 1) then 1 else 0); rw [zzo]; first | (rw [if_pos (by omega)]; done) | (rw [if_neg (by omega)]; done)
          · subst e9; rw [zv2]; show _ = (pl A st i9 i8 + 48) % 48; omega
          · subst e9; rw [zv3]; show _ = A (80 + 4 * st + 2); omega
          · subst e9; rw [zv4]; show _ = (if A (280 + 8 * i9 + 1) - A (280 + 8 * i9 + 7) < 0 then 0 else A (280 + 8 * i9 + 1) - A (280 + 8 * i9 + 7)); split <;> omega
          · subst e9; rw [zv5]; show _ = A (80 + 4 * st + 1); omega
          · subst e9; rw [zv6]; show _ = A (280 + 8 * i9 + 5); omega
          · subst e9; rw [zv7]; show _ = A (280 + 8 * i9 + 3); omega
          · subst e9; rw [zv8]; show _ = ((pl A st i9 i8 + 48) / 48 - 1 + 7) % 7; omega
        rw [ze]; exact ⟨rfl, zar⟩
      refine hv_aload_n C 0 3 dX8_lineFor_168 rfl rfl ?_
      refine zc_get C K (v := .ref (b + 10)) 15 rfl hu_9 (by decide) (cw_at 1 rfl) rfl fl_X8_53 rfl dX8_lineFor_169 ?_
      refine hv_aload_n C 2 5 dX8_lineFor_172 rfl rfl ?_
      refine zc_get C K (v := .int (iz (A (280 + 8 * i9 + 0)))) 0 rfl hu_4 (by decide) (cw_ob ho) rfl fl_X8_178 rfl dX8_lineFor_173 ?_
      refine hv_nm (fun x12 ex12 => ?_)
      have rx12 : inI x12 := by rw [ex12]; exact (hA _)
      obtain ⟨wN, rfl⟩ : ∃ n9 : Nat, x12 = (n9 : Int) := ⟨(x12).toNat, by omega⟩
      refine zc_aald C K (f := (fun q => rfv ((τ 10) q))) 3 wN (cw_at 10 rfl) rfl (by omega) (by omega) (by decide) dX8_lineFor_176 ?_
      obtain ⟨p8, e8, hC8⟩ := hR.con wN (by omega)
      obtain ⟨d8, c8, t8, _, _, _, hO8, _⟩ := id hC8
      refine hv_asv (.ref p8) (by show va_rf (rfv (τ 10 wN)) = _; rw [e8, rfv_n]; rfl) ?_
      refine hv_aload_n C 0 3 dX8_lineFor_177 rfl rfl ?_
      refine zc_get C K (v := .ref (b + 18)) 19 rfl hu_9 (by decide) (cw_at 1 rfl) rfl fl_X8_67 rfl dX8_lineFor_178 ?_
      refine hv_iload C 4 7 dX8_lineFor_181 rfl ?_
      refine zt_callV [.ref (b + 18), .int (iz (xb (pay)))] [] C K (cw_ob hO8) rfl (k_X1_firstLine l A wN p8 st i9 i8 (sA τ 18 F9) (pay) hA hC8 hl hlj (by omega) hF9) ck_X8_179 (by decide) ⟨Nat.zero_le _, Nat.zero_le _⟩ rfl (Nat.le_of_ble_eq_true rfl) dX8_lineFor_183 ?_
      refine hv_as ((lf A st i9 i8 (pay) wN (A (14 + wN)).toNat 0)) rfl ?_
      refine hv_nm (fun x13 ex13 => ?_)
      have zline : line A st i9 i8 pay = lf A st i9 i8 pay wN (A (14 + wN)).toNat 0 := by unfold line; rw [show (A (280 + 8 * i9)).toNat = wN from (show (A (280 + 8 * i9 + 0)).toNat = wN by omega)]
      exact zx_iret C hr hlk (by rw [zline]; omega) ⟨F9, rfl⟩ dX8_lineFor_186
    · skip
      refine hv_iconst C dX8_lineFor_68 ?_
      refine hv_goto C 73 dX8_lineFor_69 (by decide) ?_
      refine zc_iast C K (f := (ua (τ 18) 0 0)) 1 (cw_at 18 rfl) (cw_set 18 1 1 rfl) (by omega) (by omega) (by decide) dX8_lineFor_73 ?_
      refine zt_st (τ2 := sA τ 18 (ua (ua (τ 18) 0 0) 1 1)) (by rw [u2_sA, sA_sA]; first | done | rfl) ?_
      refine hv_aload_n C 0 3 dX8_lineFor_74 rfl rfl ?_
      refine zc_get C K (v := .ref (b + 18)) 19 rfl hu_9 (by decide) (cw_at 1 rfl) rfl fl_X8_67 rfl dX8_lineFor_75 ?_
      refine hv_iconst C dX8_lineFor_78 ?_
      refine hv_iload C 7 0 dX8_lineFor_79 rfl ?_
      refine hv_bipush C dX8_lineFor_81 (by decide) ?_
      refine zt_callS [.int (iz x3), .int (iz 48)] [.int (iz 2), .ref (b + 18)] C K (k_J9_floorMod_7cf53 l  (sA τ 18 (ua (ua (τ 18) 0 0) 1 1)) x3 (by omega)) ck_X8_158 (by decide) ⟨Nat.zero_le _, Nat.zero_le _⟩ rfl (Nat.le_of_ble_eq_true rfl) dX8_lineFor_83 ?_
      refine hv_as ((x3 % 48)) rfl ?_
      refine zc_iast C K (f := (ua (ua (τ 18) 0 0) 1 1)) 2 (cw_at 18 rfl) (cw_set 18 2 (x3 % 48) rfl) (by omega) (by omega) (by decide) dX8_lineFor_86 ?_
      refine zt_st (τ2 := sA τ 18 (ua (ua (ua (τ 18) 0 0) 1 1) 2 (x3 % 48))) (by rw [u2_sA, sA_sA]; first | done | rfl) ?_
      refine hv_aload_n C 0 3 dX8_lineFor_87 rfl rfl ?_
      refine zc_get C K (v := .ref (b + 18)) 19 rfl hu_9 (by decide) (cw_at 1 rfl) rfl fl_X8_67 rfl dX8_lineFor_88 ?_
      refine hv_iconst C dX8_lineFor_91 ?_
      refine hv_aload C 5 2 dX8_lineFor_92 rfl ?_
      refine zc_get C K (v := .int (iz (A (80 + 4 * st + 2)))) 2 rfl hu_8 (by decide) (cw_ob o1) rfl fl_X8_163 rfl dX8_lineFor_94 ?_
      refine hv_nm (fun x14 ex14 => ?_)
      have rx14 : inI x14 := by rw [ex14]; exact (hA _)
      refine zc_iast C K (f := (ua (ua (ua (τ 18) 0 0) 1 1) 2 (x3 % 48))) 3 (cw_at 18 rfl) (cw_set 18 3 x14 rfl) (by omega) (by omega) (by decide) dX8_lineFor_97 ?_
      refine zt_st (τ2 := sA τ 18 (ua (ua (ua (ua (τ 18) 0 0) 1 1) 2 (x3 % 48)) 3 x14)) (by rw [u2_sA, sA_sA]; first | done | rfl) ?_
      refine hv_aload_n C 0 3 dX8_lineFor_98 rfl rfl ?_
      refine zc_get C K (v := .ref (b + 18)) 19 rfl hu_9 (by decide) (cw_at 1 rfl) rfl fl_X8_67 rfl dX8_lineFor_99 ?_
      refine hv_iconst C dX8_lineFor_102 ?_
      refine hv_iconst C dX8_lineFor_103 ?_
      refine hv_iload C 6 1 dX8_lineFor_104 rfl ?_
      refine hv_aload_n C 2 5 dX8_lineFor_106 rfl rfl ?_
      refine zc_get C K (v := .int (iz (A (280 + 8 * i9 + 7)))) 6 rfl hu_4 (by decide) (cw_ob ho) rfl fl_X8_148 rfl dX8_lineFor_107 ?_
      refine hv_nm (fun x15 ex15 => ?_)
      have rx15 : inI x15 := by rw [ex15]; exact (hA _)
      refine hv_isub C dX8_lineFor_110 ?_
      refine zt_callS [.int (iz 0), .int (iz ((q / 48) - x15))] [.int (iz 4), .ref (b + 18)] C K (k_J9_max_7cf53 l  (sA τ 18 (ua (ua (ua (ua (τ 18) 0 0) 1 1) 2 (x3 % 48)) 3 x14)) 0 ((q / 48) - x15) (by omega) (by omega)) ck_X8_166 (by decide) ⟨Nat.zero_le _, Nat.zero_le _⟩ rfl (Nat.le_of_ble_eq_true rfl) dX8_lineFor_111 ?_
      refine hv_as ((if 0 < ((q / 48) - x15) then ((q / 48) - x15) else 0)) rfl ?_
      refine hv_nm (fun x16 ex16 => ?_)
      have zmx : (0 < (q / 48 - A (280 + 8 * i9 + 7)) ∧ x16 = (q / 48 - A (280 + 8 * i9 + 7))) ∨ ((q / 48 - A (280 + 8 * i9 + 7)) ≤ 0 ∧ x16 = 0) := by rw [ex16]; first | (split <;> omega) | (subst_vars; split <;> omega)
      refine zc_iast C K (f := (ua (ua (ua (ua (τ 18) 0 0) 1 1) 2 (x3 % 48)) 3 x14)) 4 (cw_at 18 rfl) (cw_set 18 4 x16 rfl) (by omega) (by omega) (by decide) dX8_lineFor_114 ?_
      refine zt_st (τ2 := sA τ 18 (ua (ua (ua (ua (ua (τ 18) 0 0) 1 1) 2 (x3 % 48)) 3 x14) 4 x16)) (by rw [u2_sA, sA_sA]; first | done | rfl) ?_
      refine hv_aload_n C 0 3 dX8_lineFor_115 rfl rfl ?_
      refine zc_get C K (v := .ref (b + 18)) 19 rfl hu_9 (by decide) (cw_at 1 rfl) rfl fl_X8_67 rfl dX8_lineFor_116 ?_
      refine hv_iconst C dX8_lineFor_119 ?_
      refine hv_aload C 5 2 dX8_lineFor_120 rfl ?_
      refine zc_get C K (v := .int (iz (A (80 + 4 * st + 1)))) 1 rfl hu_8 (by decide) (cw_ob o1) rfl fl_X8_151 rfl dX8_lineFor_122 ?_
      refine hv_nm (fun x17 ex17 => ?_)
      have rx17 : inI x17 := by rw [ex17]; exact (hA _)
      refine zc_iast C K (f := (ua (ua (ua (ua (ua (τ 18) 0 0) 1 1) 2 (x3 % 48)) 3 x14) 4 x16)) 5 (cw_at 18 rfl) (cw_set 18 5 x17 rfl) (by omega) (by omega) (by decide) dX8_lineFor_125 ?_
      refine zt_st (τ2 := sA τ 18 (ua (ua (ua (ua (ua (ua (τ 18) 0 0) 1 1) 2 (x3 % 48)) 3 x14) 4 x16) 5 x17)) (by rw [u2_sA, sA_sA]; first | done | rfl) ?_
      refine hv_aload_n C 0 3 dX8_lineFor_126 rfl rfl ?_
      refine zc_get C K (v := .ref (b + 18)) 19 rfl hu_9 (by decide) (cw_at 1 rfl) rfl fl_X8_67 rfl dX8_lineFor_127 ?_
      refine hv_bipush C dX8_lineFor_130 (by decide) ?_
      refine hv_aload_n C 2 5 dX8_lineFor_132 rfl rfl ?_
      refine zc_get C K (v := .int (iz (A (280 + 8 * i9 + 5)))) 4 rfl hu_4 (by decide) (cw_ob ho) rfl fl_X8_169 rfl dX8_lineFor_133 ?_
      refine hv_nm (fun x18 ex18 => ?_)
      have rx18 : inI x18 := by rw [ex18]; exact (hA _)
      refine zc_iast C K (f := (ua (ua (ua (ua (ua (ua (τ 18) 0 0) 1 1) 2 (x3 % 48)) 3 x14) 4 x16) 5 x17)) 6 (cw_at 18 rfl) (cw_set 18 6 x18 rfl) (by omega) (by omega) (by decide) dX8_lineFor_136 ?_
      refine zt_st (τ2 := sA τ 18 (ua (ua (ua (ua (ua (ua (ua (τ 18) 0 0) 1 1) 2 (x3 % 48)) 3 x14) 4 x16) 5 x17) 6 x18)) (by rw [u2_sA, sA_sA]; first | done | rfl) ?_
      refine hv_aload_n C 0 3 dX8_lineFor_137 rfl rfl ?_
      refine zc_get C K (v := .ref (b + 18)) 19 rfl hu_9 (by decide) (cw_at 1 rfl) rfl fl_X8_67 rfl dX8_lineFor_138 ?_
      refine hv_bipush C dX8_lineFor_141 (by decide) ?_
      refine hv_aload_n C 2 5 dX8_lineFor_143 rfl rfl ?_
      refine zc_get C K (v := .int (iz (A (280 + 8 * i9 + 3)))) 2 rfl hu_4 (by decide) (cw_ob ho) rfl fl_X8_172 rfl dX8_lineFor_144 ?_
      refine hv_nm (fun x19 ex19 => ?_)
      have rx19 : inI x19 := by rw [ex19]; exact (hA _)
      refine zc_iast C K (f := (ua (ua (ua (ua (ua (ua (ua (τ 18) 0 0) 1 1) 2 (x3 % 48)) 3 x14) 4 x16) 5 x17) 6 x18)) 7 (cw_at 18 rfl) (cw_set 18 7 x19 rfl) (by omega) (by omega) (by decide) dX8_lineFor_147 ?_
      refine zt_st (τ2 := sA τ 18 (ua (ua (ua (ua (ua (ua (ua (ua (τ 18) 0 0) 1 1) 2 (x3 % 48)) 3 x14) 4 x16) 5 x17) 6 x18) 7 x19)) (by rw [u2_sA, sA_sA]; first | done | rfl) ?_
      refine hv_aload_n C 0 3 dX8_lineFor_148 rfl rfl ?_
      refine zc_get C K (v := .ref (b + 18)) 19 rfl hu_9 (by decide) (cw_at 1 rfl) rfl fl_X8_67 rfl dX8_lineFor_149 ?_
      refine hv_bipush C dX8_lineFor_152 (by decide) ?_
      refine hv_iload C 7 0 dX8_lineFor_154 rfl ?_
      refine hv_bipush C dX8_lineFor_156 (by decide) ?_
      refine zt_callS [.int (iz x3), .int (iz 48)] [.int (iz 8), .ref (b + 18)] C K (k_J9_floorDiv_7cf53 l  (sA τ 18 (ua (ua (ua (ua (ua (ua (ua (ua (τ 18) 0 0) 1 1) 2 (x3 % 48)) 3 x14) 4 x16) 5 x17) 6 x18) 7 x19)) x3 (by omega)) ck_X8_175 (by decide) ⟨Nat.zero_le _, Nat.zero_le _⟩ rfl (Nat.le_of_ble_eq_true rfl) dX8_lineFor_158 ?_
      refine hv_as ((x3 / 48)) rfl ?_
      refine hv_bipush C dX8_lineFor_161 (by decide) ?_
      refine hv_iadd C dX8_lineFor_163 ?_
      refine hv_bipush C dX8_lineFor_164 (by decide) ?_
      refine hv_irem C (by omega) (by omega) (by omega) (by omega) dX8_lineFor_166 ?_
      refine zc_iast C K (f := (ua (ua (ua (ua (ua (ua (ua (ua (τ 18) 0 0) 1 1) 2 (x3 % 48)) 3 x14) 4 x16) 5 x17) 6 x18) 7 x19)) 8 (cw_at 18 rfl) (cw_set 18 8 (((x3 / 48) + 7) % 7) rfl) (by omega) (by omega) (by decide) dX8_lineFor_167 ?_
      refine zt_st (τ2 := sA τ 18 (ua (ua (ua (ua (ua (ua (ua (ua (ua (τ 18) 0 0) 1 1) 2 (x3 % 48)) 3 x14) 4 x16) 5 x17) 6 x18) 7 x19) 8 (((x3 / 48) + 7) % 7))) (by rw [u2_sA, sA_sA]; first | done | rfl) ?_
      obtain ⟨F9, eF9⟩ : ∃ xq9 : Nat → Int, xq9 = (ua (ua (ua (ua (ua (ua (ua (ua (ua (τ 18) 0 0) 1 1) 2 (x3 % 48)) 3 x14) 4 x16) 5 x17) 6 x18) 7 x19) 8 (((x3 / 48) + 7) % 7)) := ⟨_, rfl⟩
      refine zt_st (τ2 := sA τ 18 F9) (by rw [eF9]) ?_
      have zv0 : F9 0 = 0 := by rw [eF9]; rfl
      have zv1 : F9 1 = 1 := by rw [eF9]; rfl
      have zv2 : F9 2 = (x3 % 48) := by rw [eF9]; rfl
      have zv3 : F9 3 = x14 := by rw [eF9]; rfl
      have zv4 : F9 4 = x16 := by rw [eF9]; rfl
      have zv5 : F9 5 = x17 := by rw [eF9]; rfl
      have zv6 : F9 6 = x18 := by rw [eF9]; rfl
      have zv7 : F9 7 = x19 := by rw [eF9]; rfl
      have zv8 : F9 8 = (((x3 / 48) + 7) % 7) := by rw [eF9]; rfl
      have hF9 : ∀ q9 : Nat, q9 < 9 → F9 q9 = ask A ((q9 : Int) + 1) st i9 i8 ∧ 0 ≤ F9 q9 ∧ F9 q9 ≤ 300 := by
        intro q9 hq9
        have zar := ask_rng (s := st) (h := i9) (i := i8) ((q9 : Int) + 1) hs hh h1 h2 (by omega)
        have ze : F9 q9 = ask A ((q9 : Int) + 1) st i9 i8 := by
          rcases (by omega : q9 = 0 ∨ q9 = 1 ∨ q9 = 2 ∨ q9 = 3 ∨ q9 = 4 ∨ q9 = 5 ∨ q9 = 6 ∨ q9 = 7 ∨ q9 = 8) with e9 | e9 | e9 | e9 | e9 | e9 | e9 | e9 | e9
          · subst e9; rw [zv0]; show _ = (if A (280 + 8 * i9 + 6) = 0 then 0 else 1); first | (rw [if_pos (by omega)]; done) | (rw [if_neg (by omega)]; done)
          · subst e9; rw [zv1]; show _ = (if A (20 + 2 * zo A st) ≤ A (280 + 8 * i9 + 1) ∧ A (280 + 8 * i9 + 1) ≤ A (20 + 2 * zo A st + 1) then 1 else 0); rw [zzo]; first | (rw [if_pos (by omega)]; done) | (rw [if_neg (by omega)]; done)
          · subst e9; rw [zv2]; show _ = (pl A st i9 i8 + 48) % 48; omega
          · subst e9; rw [zv3]; show _ = A (80 + 4 * st + 2); omega
          · subst e9; rw [zv4]; show _ = (if A (280 + 8 * i9 + 1) - A (280 + 8 * i9 + 7) < 0 then 0 else A (280 + 8 * i9 + 1) - A (280 + 8 * i9 + 7)); split <;> omega
          · subst e9; rw [zv5]; show _ = A (80 + 4 * st + 1); omega
          · subst e9; rw [zv6]; show _ = A (280 + 8 * i9 + 5); omega
          · subst e9; rw [zv7]; show _ = A (280 + 8 * i9 + 3); omega
          · subst e9; rw [zv8]; show _ = ((pl A st i9 i8 + 48) / 48 - 1 + 7) % 7; omega
        rw [ze]; exact ⟨rfl, zar⟩
      refine hv_aload_n C 0 3 dX8_lineFor_168 rfl rfl ?_
      refine zc_get C K (v := .ref (b + 10)) 15 rfl hu_9 (by decide) (cw_at 1 rfl) rfl fl_X8_53 rfl dX8_lineFor_169 ?_
      refine hv_aload_n C 2 5 dX8_lineFor_172 rfl rfl ?_
      refine zc_get C K (v := .int (iz (A (280 + 8 * i9 + 0)))) 0 rfl hu_4 (by decide) (cw_ob ho) rfl fl_X8_178 rfl dX8_lineFor_173 ?_
      refine hv_nm (fun x20 ex20 => ?_)
      have rx20 : inI x20 := by rw [ex20]; exact (hA _)
      obtain ⟨wN, rfl⟩ : ∃ n9 : Nat, x20 = (n9 : Int) := ⟨(x20).toNat, by omega⟩
      refine zc_aald C K (f := (fun q => rfv ((τ 10) q))) 3 wN (cw_at 10 rfl) rfl (by omega) (by omega) (by decide) dX8_lineFor_176 ?_
      obtain ⟨p8, e8, hC8⟩ := hR.con wN (by omega)
      obtain ⟨d8, c8, t8, _, _, _, hO8, _⟩ := id hC8
      refine hv_asv (.ref p8) (by show va_rf (rfv (τ 10 wN)) = _; rw [e8, rfv_n]; rfl) ?_
      refine hv_aload_n C 0 3 dX8_lineFor_177 rfl rfl ?_
      refine zc_get C K (v := .ref (b + 18)) 19 rfl hu_9 (by decide) (cw_at 1 rfl) rfl fl_X8_67 rfl dX8_lineFor_178 ?_
      refine hv_iload C 4 7 dX8_lineFor_181 rfl ?_
      refine zt_callV [.ref (b + 18), .int (iz (xb (pay)))] [] C K (cw_ob hO8) rfl (k_X1_firstLine l A wN p8 st i9 i8 (sA τ 18 F9) (pay) hA hC8 hl hlj (by omega) hF9) ck_X8_179 (by decide) ⟨Nat.zero_le _, Nat.zero_le _⟩ rfl (Nat.le_of_ble_eq_true rfl) dX8_lineFor_183 ?_
      refine hv_as ((lf A st i9 i8 (pay) wN (A (14 + wN)).toNat 0)) rfl ?_
      refine hv_nm (fun x21 ex21 => ?_)
      have zline : line A st i9 i8 pay = lf A st i9 i8 pay wN (A (14 + wN)).toNat 0 := by unfold line; rw [show (A (280 + 8 * i9)).toNat = wN from (show (A (280 + 8 * i9 + 0)).toNat = wN by omega)]
      exact zx_iret C hr hlk (by rw [zline]; omega) ⟨F9, rfl⟩ dX8_lineFor_186
  · skip
    refine hv_iconst C dX8_lineFor_43 ?_
    refine hv_goto C 48 dX8_lineFor_44 (by decide) ?_
    refine zc_iast C K (f := (τ 18)) 0 (cw_at 18 rfl) (cw_set 18 0 1 rfl) (by omega) (by omega) (by decide) dX8_lineFor_48 ?_
    refine zt_st (τ2 := sA τ 18 (ua (τ 18) 0 1)) (by rw [u2_sA]; first | done | rfl) ?_
    refine hv_aload_n C 0 3 dX8_lineFor_49 rfl rfl ?_
    refine zc_get C K (v := .ref (b + 18)) 19 rfl hu_9 (by decide) (cw_at 1 rfl) rfl fl_X8_67 rfl dX8_lineFor_50 ?_
    refine hv_iconst C dX8_lineFor_53 ?_
    refine hv_aload_n C 0 3 dX8_lineFor_54 rfl rfl ?_
    refine hv_aload C 5 2 dX8_lineFor_55 rfl ?_
    refine zc_get C K (v := .int (iz (A (80 + 4 * st + 1)))) 1 rfl hu_8 (by decide) (cw_ob o1) rfl fl_X8_151 rfl dX8_lineFor_57 ?_
    refine hv_nm (fun x22 ex22 => ?_)
    have rx22 : inI x22 := by rw [ex22]; exact (hA _)
    refine hv_as (((zN : Nat) : Int)) (by omega) ?_
    refine hv_iload C 6 1 dX8_lineFor_60 rfl ?_
    refine zt_callV [.int (iz ((zN : Nat) : Int)), .int (iz (q / 48))] [.int (iz 1), .ref (b + 18)] C K (cw_at 1 rfl) rfl (k_X8_isSummer l A (sA τ 18 (ua (τ 18) 0 1)) zN (q / 48) hA (by repeat (first | exact hR | refine rl_sA (by decide) ?_)) (by omega) (by omega)) ck_X8_128 (by decide) ⟨Nat.zero_le _, Nat.zero_le _⟩ rfl (Nat.le_of_ble_eq_true rfl) dX8_lineFor_62 ?_
    refine hv_as (xb (decide (A (20 + 2 * zN) ≤ (q / 48) ∧ (q / 48) ≤ A (20 + 2 * zN + 1)))) rfl ?_
    refine hv_dif_eq C 72 dX8_lineFor_65 (by decide)  (fun h65 => ?_) (fun h65 => ?_)
    · skip
      refine hv_iconst C dX8_lineFor_72 ?_
      refine zc_iast C K (f := (ua (τ 18) 0 1)) 1 (cw_at 18 rfl) (cw_set 18 1 0 rfl) (by omega) (by omega) (by decide) dX8_lineFor_73 ?_
      refine zt_st (τ2 := sA τ 18 (ua (ua (τ 18) 0 1) 1 0)) (by rw [u2_sA, sA_sA]; first | done | rfl) ?_
      refine hv_aload_n C 0 3 dX8_lineFor_74 rfl rfl ?_
      refine zc_get C K (v := .ref (b + 18)) 19 rfl hu_9 (by decide) (cw_at 1 rfl) rfl fl_X8_67 rfl dX8_lineFor_75 ?_
      refine hv_iconst C dX8_lineFor_78 ?_
      refine hv_iload C 7 0 dX8_lineFor_79 rfl ?_
      refine hv_bipush C dX8_lineFor_81 (by decide) ?_
      refine zt_callS [.int (iz x3), .int (iz 48)] [.int (iz 2), .ref (b + 18)] C K (k_J9_floorMod_7cf53 l  (sA τ 18 (ua (ua (τ 18) 0 1) 1 0)) x3 (by omega)) ck_X8_158 (by decide) ⟨Nat.zero_le _, Nat.zero_le _⟩ rfl (Nat.le_of_ble_eq_true rfl) dX8_lineFor_83 ?_
      refine hv_as ((x3 % 48)) rfl ?_
      refine zc_iast C K (f := (ua (ua (τ 18) 0 1) 1 0)) 2 (cw_at 18 rfl) (cw_set 18 2 (x3 % 48) rfl) (by omega) (by omega) (by decide) dX8_lineFor_86 ?_
      refine zt_st (τ2 := sA τ 18 (ua (ua (ua (τ 18) 0 1) 1 0) 2 (x3 % 48))) (by rw [u2_sA, sA_sA]; first | done | rfl) ?_
      refine hv_aload_n C 0 3 dX8_lineFor_87 rfl rfl ?_
      refine zc_get C K (v := .ref (b + 18)) 19 rfl hu_9 (by decide) (cw_at 1 rfl) rfl fl_X8_67 rfl dX8_lineFor_88 ?_
      refine hv_iconst C dX8_lineFor_91 ?_
      refine hv_aload C 5 2 dX8_lineFor_92 rfl ?_
      refine zc_get C K (v := .int (iz (A (80 + 4 * st + 2)))) 2 rfl hu_8 (by decide) (cw_ob o1) rfl fl_X8_163 rfl dX8_lineFor_94 ?_
      refine hv_nm (fun x23 ex23 => ?_)
      have rx23 : inI x23 := by rw [ex23]; exact (hA _)
      refine zc_iast C K (f := (ua (ua (ua (τ 18) 0 1) 1 0) 2 (x3 % 48))) 3 (cw_at 18 rfl) (cw_set 18 3 x23 rfl) (by omega) (by omega) (by decide) dX8_lineFor_97 ?_
      refine zt_st (τ2 := sA τ 18 (ua (ua (ua (ua (τ 18) 0 1) 1 0) 2 (x3 % 48)) 3 x23)) (by rw [u2_sA, sA_sA]; first | done | rfl) ?_
      refine hv_aload_n C 0 3 dX8_lineFor_98 rfl rfl ?_
      refine zc_get C K (v := .ref (b + 18)) 19 rfl hu_9 (by decide) (cw_at 1 rfl) rfl fl_X8_67 rfl dX8_lineFor_99 ?_
      refine hv_iconst C dX8_lineFor_102 ?_
      refine hv_iconst C dX8_lineFor_103 ?_
      refine hv_iload C 6 1 dX8_lineFor_104 rfl ?_
      refine hv_aload_n C 2 5 dX8_lineFor_106 rfl rfl ?_
      refine zc_get C K (v := .int (iz (A (280 + 8 * i9 + 7)))) 6 rfl hu_4 (by decide) (cw_ob ho) rfl fl_X8_148 rfl dX8_lineFor_107 ?_
      refine hv_nm (fun x24 ex24 => ?_)
      have rx24 : inI x24 := by rw [ex24]; exact (hA _)
      refine hv_isub C dX8_lineFor_110 ?_
      refine zt_callS [.int (iz 0), .int (iz ((q / 48) - x24))] [.int (iz 4), .ref (b + 18)] C K (k_J9_max_7cf53 l  (sA τ 18 (ua (ua (ua (ua (τ 18) 0 1) 1 0) 2 (x3 % 48)) 3 x23)) 0 ((q / 48) - x24) (by omega) (by omega)) ck_X8_166 (by decide) ⟨Nat.zero_le _, Nat.zero_le _⟩ rfl (Nat.le_of_ble_eq_true rfl) dX8_lineFor_111 ?_
      refine hv_as ((if 0 < ((q / 48) - x24) then ((q / 48) - x24) else 0)) rfl ?_
      refine hv_nm (fun x25 ex25 => ?_)
      have zmx : (0 < (q / 48 - A (280 + 8 * i9 + 7)) ∧ x25 = (q / 48 - A (280 + 8 * i9 + 7))) ∨ ((q / 48 - A (280 + 8 * i9 + 7)) ≤ 0 ∧ x25 = 0) := by rw [ex25]; first | (split <;> omega) | (subst_vars; split <;> omega)
      refine zc_iast C K (f := (ua (ua (ua (ua (τ 18) 0 1) 1 0) 2 (x3 % 48)) 3 x23)) 4 (cw_at 18 rfl) (cw_set 18 4 x25 rfl) (by omega) (by omega) (by decide) dX8_lineFor_114 ?_
      refine zt_st (τ2 := sA τ 18 (ua (ua (ua (ua (ua (τ 18) 0 1) 1 0) 2 (x3 % 48)) 3 x23) 4 x25)) (by rw [u2_sA, sA_sA]; first | done | rfl) ?_
      refine hv_aload_n C 0 3 dX8_lineFor_115 rfl rfl ?_
      refine zc_get C K (v := .ref (b + 18)) 19 rfl hu_9 (by decide) (cw_at 1 rfl) rfl fl_X8_67 rfl dX8_lineFor_116 ?_
      refine hv_iconst C dX8_lineFor_119 ?_
      refine hv_aload C 5 2 dX8_lineFor_120 rfl ?_
      refine zc_get C K (v := .int (iz (A (80 + 4 * st + 1)))) 1 rfl hu_8 (by decide) (cw_ob o1) rfl fl_X8_151 rfl dX8_lineFor_122 ?_
      refine hv_nm (fun x26 ex26 => ?_)
      have rx26 : inI x26 := by rw [ex26]; exact (hA _)
      refine zc_iast C K (f := (ua (ua (ua (ua (ua (τ 18) 0 1) 1 0) 2 (x3 % 48)) 3 x23) 4 x25)) 5 (cw_at 18 rfl) (cw_set 18 5 x26 rfl) (by omega) (by omega) (by decide) dX8_lineFor_125 ?_
      refine zt_st (τ2 := sA τ 18 (ua (ua (ua (ua (ua (ua (τ 18) 0 1) 1 0) 2 (x3 % 48)) 3 x23) 4 x25) 5 x26)) (by rw [u2_sA, sA_sA]; first | done | rfl) ?_
      refine hv_aload_n C 0 3 dX8_lineFor_126 rfl rfl ?_
      refine zc_get C K (v := .ref (b + 18)) 19 rfl hu_9 (by decide) (cw_at 1 rfl) rfl fl_X8_67 rfl dX8_lineFor_127 ?_
      refine hv_bipush C dX8_lineFor_130 (by decide) ?_
      refine hv_aload_n C 2 5 dX8_lineFor_132 rfl rfl ?_
      refine zc_get C K (v := .int (iz (A (280 + 8 * i9 + 5)))) 4 rfl hu_4 (by decide) (cw_ob ho) rfl fl_X8_169 rfl dX8_lineFor_133 ?_
      refine hv_nm (fun x27 ex27 => ?_)
      have rx27 : inI x27 := by rw [ex27]; exact (hA _)
      refine zc_iast C K (f := (ua (ua (ua (ua (ua (ua (τ 18) 0 1) 1 0) 2 (x3 % 48)) 3 x23) 4 x25) 5 x26)) 6 (cw_at 18 rfl) (cw_set 18 6 x27 rfl) (by omega) (by omega) (by decide) dX8_lineFor_136 ?_
      refine zt_st (τ2 := sA τ 18 (ua (ua (ua (ua (ua (ua (ua (τ 18) 0 1) 1 0) 2 (x3 % 48)) 3 x23) 4 x25) 5 x26) 6 x27)) (by rw [u2_sA, sA_sA]; first | done | rfl) ?_
      refine hv_aload_n C 0 3 dX8_lineFor_137 rfl rfl ?_
      refine zc_get C K (v := .ref (b + 18)) 19 rfl hu_9 (by decide) (cw_at 1 rfl) rfl fl_X8_67 rfl dX8_lineFor_138 ?_
      refine hv_bipush C dX8_lineFor_141 (by decide) ?_
      refine hv_aload_n C 2 5 dX8_lineFor_143 rfl rfl ?_
      refine zc_get C K (v := .int (iz (A (280 + 8 * i9 + 3)))) 2 rfl hu_4 (by decide) (cw_ob ho) rfl fl_X8_172 rfl dX8_lineFor_144 ?_
      refine hv_nm (fun x28 ex28 => ?_)
      have rx28 : inI x28 := by rw [ex28]; exact (hA _)
      refine zc_iast C K (f := (ua (ua (ua (ua (ua (ua (ua (τ 18) 0 1) 1 0) 2 (x3 % 48)) 3 x23) 4 x25) 5 x26) 6 x27)) 7 (cw_at 18 rfl) (cw_set 18 7 x28 rfl) (by omega) (by omega) (by decide) dX8_lineFor_147 ?_
      refine zt_st (τ2 := sA τ 18 (ua (ua (ua (ua (ua (ua (ua (ua (τ 18) 0 1) 1 0) 2 (x3 % 48)) 3 x23) 4 x25) 5 x26) 6 x27) 7 x28)) (by rw [u2_sA, sA_sA]; first | done | rfl) ?_
      refine hv_aload_n C 0 3 dX8_lineFor_148 rfl rfl ?_
      refine zc_get C K (v := .ref (b + 18)) 19 rfl hu_9 (by decide) (cw_at 1 rfl) rfl fl_X8_67 rfl dX8_lineFor_149 ?_
      refine hv_bipush C dX8_lineFor_152 (by decide) ?_
      refine hv_iload C 7 0 dX8_lineFor_154 rfl ?_
      refine hv_bipush C dX8_lineFor_156 (by decide) ?_
      refine zt_callS [.int (iz x3), .int (iz 48)] [.int (iz 8), .ref (b + 18)] C K (k_J9_floorDiv_7cf53 l  (sA τ 18 (ua (ua (ua (ua (ua (ua (ua (ua (τ 18) 0 1) 1 0) 2 (x3 % 48)) 3 x23) 4 x25) 5 x26) 6 x27) 7 x28)) x3 (by omega)) ck_X8_175 (by decide) ⟨Nat.zero_le _, Nat.zero_le _⟩ rfl (Nat.le_of_ble_eq_true rfl) dX8_lineFor_158 ?_
      refine hv_as ((x3 / 48)) rfl ?_
      refine hv_bipush C dX8_lineFor_161 (by decide) ?_
      refine hv_iadd C dX8_lineFor_163 ?_
      refine hv_bipush C dX8_lineFor_164 (by decide) ?_
      refine hv_irem C (by omega) (by omega) (by omega) (by omega) dX8_lineFor_166 ?_
      refine zc_iast C K (f := (ua (ua (ua (ua (ua (ua (ua (ua (τ 18) 0 1) 1 0) 2 (x3 % 48)) 3 x23) 4 x25) 5 x26) 6 x27) 7 x28)) 8 (cw_at 18 rfl) (cw_set 18 8 (((x3 / 48) + 7) % 7) rfl) (by omega) (by omega) (by decide) dX8_lineFor_167 ?_
      refine zt_st (τ2 := sA τ 18 (ua (ua (ua (ua (ua (ua (ua (ua (ua (τ 18) 0 1) 1 0) 2 (x3 % 48)) 3 x23) 4 x25) 5 x26) 6 x27) 7 x28) 8 (((x3 / 48) + 7) % 7))) (by rw [u2_sA, sA_sA]; first | done | rfl) ?_
      obtain ⟨F9, eF9⟩ : ∃ xq9 : Nat → Int, xq9 = (ua (ua (ua (ua (ua (ua (ua (ua (ua (τ 18) 0 1) 1 0) 2 (x3 % 48)) 3 x23) 4 x25) 5 x26) 6 x27) 7 x28) 8 (((x3 / 48) + 7) % 7)) := ⟨_, rfl⟩
      refine zt_st (τ2 := sA τ 18 F9) (by rw [eF9]) ?_
      have zv0 : F9 0 = 1 := by rw [eF9]; rfl
      have zv1 : F9 1 = 0 := by rw [eF9]; rfl
      have zv2 : F9 2 = (x3 % 48) := by rw [eF9]; rfl
      have zv3 : F9 3 = x23 := by rw [eF9]; rfl
      have zv4 : F9 4 = x25 := by rw [eF9]; rfl
      have zv5 : F9 5 = x26 := by rw [eF9]; rfl
      have zv6 : F9 6 = x27 := by rw [eF9]; rfl
      have zv7 : F9 7 = x28 := by rw [eF9]; rfl
      have zv8 : F9 8 = (((x3 / 48) + 7) % 7) := by rw [eF9]; rfl
      have hF9 : ∀ q9 : Nat, q9 < 9 → F9 q9 = ask A ((q9 : Int) + 1) st i9 i8 ∧ 0 ≤ F9 q9 ∧ F9 q9 ≤ 300 := by
        intro q9 hq9
        have zar := ask_rng (s := st) (h := i9) (i := i8) ((q9 : Int) + 1) hs hh h1 h2 (by omega)
        have ze : F9 q9 = ask A ((q9 : Int) + 1) st i9 i8 := by
          rcases (by omega : q9 = 0 ∨ q9 = 1 ∨ q9 = 2 ∨ q9 = 3 ∨ q9 = 4 ∨ q9 = 5 ∨ q9 = 6 ∨ q9 = 7 ∨ q9 = 8) with e9 | e9 | e9 | e9 | e9 | e9 | e9 | e9 | e9
          · subst e9; rw [zv0]; show _ = (if A (280 + 8 * i9 + 6) = 0 then 0 else 1); first | (rw [if_pos (by omega)]; done) | (rw [if_neg (by omega)]; done)
          · subst e9; rw [zv1]; show _ = (if A (20 + 2 * zo A st) ≤ A (280 + 8 * i9 + 1) ∧ A (280 + 8 * i9 + 1) ≤ A (20 + 2 * zo A st + 1) then 1 else 0); rw [zzo]; first | (rw [if_pos (by omega)]; done) | (rw [if_neg (by omega)]; done)
          · subst e9; rw [zv2]; show _ = (pl A st i9 i8 + 48) % 48; omega
          · subst e9; rw [zv3]; show _ = A (80 + 4 * st + 2); omega
          · subst e9; rw [zv4]; show _ = (if A (280 + 8 * i9 + 1) - A (280 + 8 * i9 + 7) < 0 then 0 else A (280 + 8 * i9 + 1) - A (280 + 8 * i9 + 7)); split <;> omega
          · subst e9; rw [zv5]; show _ = A (80 + 4 * st + 1); omega
          · subst e9; rw [zv6]; show _ = A (280 + 8 * i9 + 5); omega
          · subst e9; rw [zv7]; show _ = A (280 + 8 * i9 + 3); omega
          · subst e9; rw [zv8]; show _ = ((pl A st i9 i8 + 48) / 48 - 1 + 7) % 7; omega
        rw [ze]; exact ⟨rfl, zar⟩
      refine hv_aload_n C 0 3 dX8_lineFor_168 rfl rfl ?_
      refine zc_get C K (v := .ref (b + 10)) 15 rfl hu_9 (by decide) (cw_at 1 rfl) rfl fl_X8_53 rfl dX8_lineFor_169 ?_
      refine hv_aload_n C 2 5 dX8_lineFor_172 rfl rfl ?_
      refine zc_get C K (v := .int (iz (A (280 + 8 * i9 + 0)))) 0 rfl hu_4 (by decide) (cw_ob ho) rfl fl_X8_178 rfl dX8_lineFor_173 ?_
      refine hv_nm (fun x29 ex29 => ?_)
      have rx29 : inI x29 := by rw [ex29]; exact (hA _)
      obtain ⟨wN, rfl⟩ : ∃ n9 : Nat, x29 = (n9 : Int) := ⟨(x29).toNat, by omega⟩
      refine zc_aald C K (f := (fun q => rfv ((τ 10) q))) 3 wN (cw_at 10 rfl) rfl (by omega) (by omega) (by decide) dX8_lineFor_176 ?_
      obtain ⟨p8, e8, hC8⟩ := hR.con wN (by omega)
      obtain ⟨d8, c8, t8, _, _, _, hO8, _⟩ := id hC8
      refine hv_asv (.ref p8) (by show va_rf (rfv (τ 10 wN)) = _; rw [e8, rfv_n]; rfl) ?_
      refine hv_aload_n C 0 3 dX8_lineFor_177 rfl rfl ?_
      refine zc_get C K (v := .ref (b + 18)) 19 rfl hu_9 (by decide) (cw_at 1 rfl) rfl fl_X8_67 rfl dX8_lineFor_178 ?_
      refine hv_iload C 4 7 dX8_lineFor_181 rfl ?_
      refine zt_callV [.ref (b + 18), .int (iz (xb (pay)))] [] C K (cw_ob hO8) rfl (k_X1_firstLine l A wN p8 st i9 i8 (sA τ 18 F9) (pay) hA hC8 hl hlj (by omega) hF9) ck_X8_179 (by decide) ⟨Nat.zero_le _, Nat.zero_le _⟩ rfl (Nat.le_of_ble_eq_true rfl) dX8_lineFor_183 ?_
      refine hv_as ((lf A st i9 i8 (pay) wN (A (14 + wN)).toNat 0)) rfl ?_
      refine hv_nm (fun x30 ex30 => ?_)
      have zline : line A st i9 i8 pay = lf A st i9 i8 pay wN (A (14 + wN)).toNat 0 := by unfold line; rw [show (A (280 + 8 * i9)).toNat = wN from (show (A (280 + 8 * i9 + 0)).toNat = wN by omega)]
      exact zx_iret C hr hlk (by rw [zline]; omega) ⟨F9, rfl⟩ dX8_lineFor_186
    · skip
      refine hv_iconst C dX8_lineFor_68 ?_
      refine hv_goto C 73 dX8_lineFor_69 (by decide) ?_
      refine zc_iast C K (f := (ua (τ 18) 0 1)) 1 (cw_at 18 rfl) (cw_set 18 1 1 rfl) (by omega) (by omega) (by decide) dX8_lineFor_73 ?_
      refine zt_st (τ2 := sA τ 18 (ua (ua (τ 18) 0 1) 1 1)) (by rw [u2_sA, sA_sA]; first | done | rfl) ?_
      refine hv_aload_n C 0 3 dX8_lineFor_74 rfl rfl ?_
      refine zc_get C K (v := .ref (b + 18)) 19 rfl hu_9 (by decide) (cw_at 1 rfl) rfl fl_X8_67 rfl dX8_lineFor_75 ?_
      refine hv_iconst C dX8_lineFor_78 ?_
      refine hv_iload C 7 0 dX8_lineFor_79 rfl ?_
      refine hv_bipush C dX8_lineFor_81 (by decide) ?_
      refine zt_callS [.int (iz x3), .int (iz 48)] [.int (iz 2), .ref (b + 18)] C K (k_J9_floorMod_7cf53 l  (sA τ 18 (ua (ua (τ 18) 0 1) 1 1)) x3 (by omega)) ck_X8_158 (by decide) ⟨Nat.zero_le _, Nat.zero_le _⟩ rfl (Nat.le_of_ble_eq_true rfl) dX8_lineFor_83 ?_
      refine hv_as ((x3 % 48)) rfl ?_
      refine zc_iast C K (f := (ua (ua (τ 18) 0 1) 1 1)) 2 (cw_at 18 rfl) (cw_set 18 2 (x3 % 48) rfl) (by omega) (by omega) (by decide) dX8_lineFor_86 ?_
      refine zt_st (τ2 := sA τ 18 (ua (ua (ua (τ 18) 0 1) 1 1) 2 (x3 % 48))) (by rw [u2_sA, sA_sA]; first | done | rfl) ?_
      refine hv_aload_n C 0 3 dX8_lineFor_87 rfl rfl ?_
      refine zc_get C K (v := .ref (b + 18)) 19 rfl hu_9 (by decide) (cw_at 1 rfl) rfl fl_X8_67 rfl dX8_lineFor_88 ?_
      refine hv_iconst C dX8_lineFor_91 ?_
      refine hv_aload C 5 2 dX8_lineFor_92 rfl ?_
      refine zc_get C K (v := .int (iz (A (80 + 4 * st + 2)))) 2 rfl hu_8 (by decide) (cw_ob o1) rfl fl_X8_163 rfl dX8_lineFor_94 ?_
      refine hv_nm (fun x31 ex31 => ?_)
      have rx31 : inI x31 := by rw [ex31]; exact (hA _)
      refine zc_iast C K (f := (ua (ua (ua (τ 18) 0 1) 1 1) 2 (x3 % 48))) 3 (cw_at 18 rfl) (cw_set 18 3 x31 rfl) (by omega) (by omega) (by decide) dX8_lineFor_97 ?_
      refine zt_st (τ2 := sA τ 18 (ua (ua (ua (ua (τ 18) 0 1) 1 1) 2 (x3 % 48)) 3 x31)) (by rw [u2_sA, sA_sA]; first | done | rfl) ?_
      refine hv_aload_n C 0 3 dX8_lineFor_98 rfl rfl ?_
      refine zc_get C K (v := .ref (b + 18)) 19 rfl hu_9 (by decide) (cw_at 1 rfl) rfl fl_X8_67 rfl dX8_lineFor_99 ?_
      refine hv_iconst C dX8_lineFor_102 ?_
      refine hv_iconst C dX8_lineFor_103 ?_
      refine hv_iload C 6 1 dX8_lineFor_104 rfl ?_
      refine hv_aload_n C 2 5 dX8_lineFor_106 rfl rfl ?_
      refine zc_get C K (v := .int (iz (A (280 + 8 * i9 + 7)))) 6 rfl hu_4 (by decide) (cw_ob ho) rfl fl_X8_148 rfl dX8_lineFor_107 ?_
      refine hv_nm (fun x32 ex32 => ?_)
      have rx32 : inI x32 := by rw [ex32]; exact (hA _)
      refine hv_isub C dX8_lineFor_110 ?_
      refine zt_callS [.int (iz 0), .int (iz ((q / 48) - x32))] [.int (iz 4), .ref (b + 18)] C K (k_J9_max_7cf53 l  (sA τ 18 (ua (ua (ua (ua (τ 18) 0 1) 1 1) 2 (x3 % 48)) 3 x31)) 0 ((q / 48) - x32) (by omega) (by omega)) ck_X8_166 (by decide) ⟨Nat.zero_le _, Nat.zero_le _⟩ rfl (Nat.le_of_ble_eq_true rfl) dX8_lineFor_111 ?_
      refine hv_as ((if 0 < ((q / 48) - x32) then ((q / 48) - x32) else 0)) rfl ?_
      refine hv_nm (fun x33 ex33 => ?_)
      have zmx : (0 < (q / 48 - A (280 + 8 * i9 + 7)) ∧ x33 = (q / 48 - A (280 + 8 * i9 + 7))) ∨ ((q / 48 - A (280 + 8 * i9 + 7)) ≤ 0 ∧ x33 = 0) := by rw [ex33]; first | (split <;> omega) | (subst_vars; split <;> omega)
      refine zc_iast C K (f := (ua (ua (ua (ua (τ 18) 0 1) 1 1) 2 (x3 % 48)) 3 x31)) 4 (cw_at 18 rfl) (cw_set 18 4 x33 rfl) (by omega) (by omega) (by decide) dX8_lineFor_114 ?_
      refine zt_st (τ2 := sA τ 18 (ua (ua (ua (ua (ua (τ 18) 0 1) 1 1) 2 (x3 % 48)) 3 x31) 4 x33)) (by rw [u2_sA, sA_sA]; first | done | rfl) ?_
      refine hv_aload_n C 0 3 dX8_lineFor_115 rfl rfl ?_
      refine zc_get C K (v := .ref (b + 18)) 19 rfl hu_9 (by decide) (cw_at 1 rfl) rfl fl_X8_67 rfl dX8_lineFor_116 ?_
      refine hv_iconst C dX8_lineFor_119 ?_
      refine hv_aload C 5 2 dX8_lineFor_120 rfl ?_
      refine zc_get C K (v := .int (iz (A (80 + 4 * st + 1)))) 1 rfl hu_8 (by decide) (cw_ob o1) rfl fl_X8_151 rfl dX8_lineFor_122 ?_
      refine hv_nm (fun x34 ex34 => ?_)
      have rx34 : inI x34 := by rw [ex34]; exact (hA _)
      refine zc_iast C K (f := (ua (ua (ua (ua (ua (τ 18) 0 1) 1 1) 2 (x3 % 48)) 3 x31) 4 x33)) 5 (cw_at 18 rfl) (cw_set 18 5 x34 rfl) (by omega) (by omega) (by decide) dX8_lineFor_125 ?_
      refine zt_st (τ2 := sA τ 18 (ua (ua (ua (ua (ua (ua (τ 18) 0 1) 1 1) 2 (x3 % 48)) 3 x31) 4 x33) 5 x34)) (by rw [u2_sA, sA_sA]; first | done | rfl) ?_
      refine hv_aload_n C 0 3 dX8_lineFor_126 rfl rfl ?_
      refine zc_get C K (v := .ref (b + 18)) 19 rfl hu_9 (by decide) (cw_at 1 rfl) rfl fl_X8_67 rfl dX8_lineFor_127 ?_
      refine hv_bipush C dX8_lineFor_130 (by decide) ?_
      refine hv_aload_n C 2 5 dX8_lineFor_132 rfl rfl ?_
      refine zc_get C K (v := .int (iz (A (280 + 8 * i9 + 5)))) 4 rfl hu_4 (by decide) (cw_ob ho) rfl fl_X8_169 rfl dX8_lineFor_133 ?_
      refine hv_nm (fun x35 ex35 => ?_)
      have rx35 : inI x35 := by rw [ex35]; exact (hA _)
      refine zc_iast C K (f := (ua (ua (ua (ua (ua (ua (τ 18) 0 1) 1 1) 2 (x3 % 48)) 3 x31) 4 x33) 5 x34)) 6 (cw_at 18 rfl) (cw_set 18 6 x35 rfl) (by omega) (by omega) (by decide) dX8_lineFor_136 ?_
      refine zt_st (τ2 := sA τ 18 (ua (ua (ua (ua (ua (ua (ua (τ 18) 0 1) 1 1) 2 (x3 % 48)) 3 x31) 4 x33) 5 x34) 6 x35)) (by rw [u2_sA, sA_sA]; first | done | rfl) ?_
      refine hv_aload_n C 0 3 dX8_lineFor_137 rfl rfl ?_
      refine zc_get C K (v := .ref (b + 18)) 19 rfl hu_9 (by decide) (cw_at 1 rfl) rfl fl_X8_67 rfl dX8_lineFor_138 ?_
      refine hv_bipush C dX8_lineFor_141 (by decide) ?_
      refine hv_aload_n C 2 5 dX8_lineFor_143 rfl rfl ?_
      refine zc_get C K (v := .int (iz (A (280 + 8 * i9 + 3)))) 2 rfl hu_4 (by decide) (cw_ob ho) rfl fl_X8_172 rfl dX8_lineFor_144 ?_
      refine hv_nm (fun x36 ex36 => ?_)
      have rx36 : inI x36 := by rw [ex36]; exact (hA _)
      refine zc_iast C K (f := (ua (ua (ua (ua (ua (ua (ua (τ 18) 0 1) 1 1) 2 (x3 % 48)) 3 x31) 4 x33) 5 x34) 6 x35)) 7 (cw_at 18 rfl) (cw_set 18 7 x36 rfl) (by omega) (by omega) (by decide) dX8_lineFor_147 ?_
      refine zt_st (τ2 := sA τ 18 (ua (ua (ua (ua (ua (ua (ua (ua (τ 18) 0 1) 1 1) 2 (x3 % 48)) 3 x31) 4 x33) 5 x34) 6 x35) 7 x36)) (by rw [u2_sA, sA_sA]; first | done | rfl) ?_
      refine hv_aload_n C 0 3 dX8_lineFor_148 rfl rfl ?_
      refine zc_get C K (v := .ref (b + 18)) 19 rfl hu_9 (by decide) (cw_at 1 rfl) rfl fl_X8_67 rfl dX8_lineFor_149 ?_
      refine hv_bipush C dX8_lineFor_152 (by decide) ?_
      refine hv_iload C 7 0 dX8_lineFor_154 rfl ?_
      refine hv_bipush C dX8_lineFor_156 (by decide) ?_
      refine zt_callS [.int (iz x3), .int (iz 48)] [.int (iz 8), .ref (b + 18)] C K (k_J9_floorDiv_7cf53 l  (sA τ 18 (ua (ua (ua (ua (ua (ua (ua (ua (τ 18) 0 1) 1 1) 2 (x3 % 48)) 3 x31) 4 x33) 5 x34) 6 x35) 7 x36)) x3 (by omega)) ck_X8_175 (by decide) ⟨Nat.zero_le _, Nat.zero_le _⟩ rfl (Nat.le_of_ble_eq_true rfl) dX8_lineFor_158 ?_
      refine hv_as ((x3 / 48)) rfl ?_
      refine hv_bipush C dX8_lineFor_161 (by decide) ?_
      refine hv_iadd C dX8_lineFor_163 ?_
      refine hv_bipush C dX8_lineFor_164 (by decide) ?_
      refine hv_irem C (by omega) (by omega) (by omega) (by omega) dX8_lineFor_166 ?_
      refine zc_iast C K (f := (ua (ua (ua (ua (ua (ua (ua (ua (τ 18) 0 1) 1 1) 2 (x3 % 48)) 3 x31) 4 x33) 5 x34) 6 x35) 7 x36)) 8 (cw_at 18 rfl) (cw_set 18 8 (((x3 / 48) + 7) % 7) rfl) (by omega) (by omega) (by decide) dX8_lineFor_167 ?_
      refine zt_st (τ2 := sA τ 18 (ua (ua (ua (ua (ua (ua (ua (ua (ua (τ 18) 0 1) 1 1) 2 (x3 % 48)) 3 x31) 4 x33) 5 x34) 6 x35) 7 x36) 8 (((x3 / 48) + 7) % 7))) (by rw [u2_sA, sA_sA]; first | done | rfl) ?_
      obtain ⟨F9, eF9⟩ : ∃ xq9 : Nat → Int, xq9 = (ua (ua (ua (ua (ua (ua (ua (ua (ua (τ 18) 0 1) 1 1) 2 (x3 % 48)) 3 x31) 4 x33) 5 x34) 6 x35) 7 x36) 8 (((x3 / 48) + 7) % 7)) := ⟨_, rfl⟩
      refine zt_st (τ2 := sA τ 18 F9) (by rw [eF9]) ?_
      have zv0 : F9 0 = 1 := by rw [eF9]; rfl
      have zv1 : F9 1 = 1 := by rw [eF9]; rfl
      have zv2 : F9 2 = (x3 % 48) := by rw [eF9]; rfl
      have zv3 : F9 3 = x31 := by rw [eF9]; rfl
      have zv4 : F9 4 = x33 := by rw [eF9]; rfl
      have zv5 : F9 5 = x34 := by rw [eF9]; rfl
      have zv6 : F9 6 = x35 := by rw [eF9]; rfl
      have zv7 : F9 7 = x36 := by rw [eF9]; rfl
      have zv8 : F9 8 = (((x3 / 48) + 7) % 7) := by rw [eF9]; rfl
      have hF9 : ∀ q9 : Nat, q9 < 9 → F9 q9 = ask A ((q9 : Int) + 1) st i9 i8 ∧ 0 ≤ F9 q9 ∧ F9 q9 ≤ 300 := by
        intro q9 hq9
        have zar := ask_rng (s := st) (h := i9) (i := i8) ((q9 : Int) + 1) hs hh h1 h2 (by omega)
        have ze : F9 q9 = ask A ((q9 : Int) + 1) st i9 i8 := by
          rcases (by omega : q9 = 0 ∨ q9 = 1 ∨ q9 = 2 ∨ q9 = 3 ∨ q9 = 4 ∨ q9 = 5 ∨ q9 = 6 ∨ q9 = 7 ∨ q9 = 8) with e9 | e9 | e9 | e9 | e9 | e9 | e9 | e9 | e9
          · subst e9; rw [zv0]; show _ = (if A (280 + 8 * i9 + 6) = 0 then 0 else 1); first | (rw [if_pos (by omega)]; done) | (rw [if_neg (by omega)]; done)
          · subst e9; rw [zv1]; show _ = (if A (20 + 2 * zo A st) ≤ A (280 + 8 * i9 + 1) ∧ A (280 + 8 * i9 + 1) ≤ A (20 + 2 * zo A st + 1) then 1 else 0); rw [zzo]; first | (rw [if_pos (by omega)]; done) | (rw [if_neg (by omega)]; done)
          · subst e9; rw [zv2]; show _ = (pl A st i9 i8 + 48) % 48; omega
          · subst e9; rw [zv3]; show _ = A (80 + 4 * st + 2); omega
          · subst e9; rw [zv4]; show _ = (if A (280 + 8 * i9 + 1) - A (280 + 8 * i9 + 7) < 0 then 0 else A (280 + 8 * i9 + 1) - A (280 + 8 * i9 + 7)); split <;> omega
          · subst e9; rw [zv5]; show _ = A (80 + 4 * st + 1); omega
          · subst e9; rw [zv6]; show _ = A (280 + 8 * i9 + 5); omega
          · subst e9; rw [zv7]; show _ = A (280 + 8 * i9 + 3); omega
          · subst e9; rw [zv8]; show _ = ((pl A st i9 i8 + 48) / 48 - 1 + 7) % 7; omega
        rw [ze]; exact ⟨rfl, zar⟩
      refine hv_aload_n C 0 3 dX8_lineFor_168 rfl rfl ?_
      refine zc_get C K (v := .ref (b + 10)) 15 rfl hu_9 (by decide) (cw_at 1 rfl) rfl fl_X8_53 rfl dX8_lineFor_169 ?_
      refine hv_aload_n C 2 5 dX8_lineFor_172 rfl rfl ?_
      refine zc_get C K (v := .int (iz (A (280 + 8 * i9 + 0)))) 0 rfl hu_4 (by decide) (cw_ob ho) rfl fl_X8_178 rfl dX8_lineFor_173 ?_
      refine hv_nm (fun x37 ex37 => ?_)
      have rx37 : inI x37 := by rw [ex37]; exact (hA _)
      obtain ⟨wN, rfl⟩ : ∃ n9 : Nat, x37 = (n9 : Int) := ⟨(x37).toNat, by omega⟩
      refine zc_aald C K (f := (fun q => rfv ((τ 10) q))) 3 wN (cw_at 10 rfl) rfl (by omega) (by omega) (by decide) dX8_lineFor_176 ?_
      obtain ⟨p8, e8, hC8⟩ := hR.con wN (by omega)
      obtain ⟨d8, c8, t8, _, _, _, hO8, _⟩ := id hC8
      refine hv_asv (.ref p8) (by show va_rf (rfv (τ 10 wN)) = _; rw [e8, rfv_n]; rfl) ?_
      refine hv_aload_n C 0 3 dX8_lineFor_177 rfl rfl ?_
      refine zc_get C K (v := .ref (b + 18)) 19 rfl hu_9 (by decide) (cw_at 1 rfl) rfl fl_X8_67 rfl dX8_lineFor_178 ?_
      refine hv_iload C 4 7 dX8_lineFor_181 rfl ?_
      refine zt_callV [.ref (b + 18), .int (iz (xb (pay)))] [] C K (cw_ob hO8) rfl (k_X1_firstLine l A wN p8 st i9 i8 (sA τ 18 F9) (pay) hA hC8 hl hlj (by omega) hF9) ck_X8_179 (by decide) ⟨Nat.zero_le _, Nat.zero_le _⟩ rfl (Nat.le_of_ble_eq_true rfl) dX8_lineFor_183 ?_
      refine hv_as ((lf A st i9 i8 (pay) wN (A (14 + wN)).toNat 0)) rfl ?_
      refine hv_nm (fun x38 ex38 => ?_)
      have zline : line A st i9 i8 pay = lf A st i9 i8 pay wN (A (14 + wN)).toNat 0 := by unfold line; rw [show (A (280 + 8 * i9)).toNat = wN from (show (A (280 + 8 * i9 + 0)).toNat = wN by omega)]
      exact zx_iret C hr hlk (by rw [zline]; omega) ⟨F9, rfl⟩ dX8_lineFor_186
