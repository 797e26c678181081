theorem ck_J0_335 : zcV RJ0 RJ0 yJ0_coder_7d493 cJ0_coder_7d493 1 (some .byte) 335 0 := ⟨hk_tq3 214 (by decide +kernel) (by decide +kernel), hk_tq3 211 (by decide +kernel) (by decide +kernel), hk_tq1 23 (by decide +kernel) (by decide +kernel), ⟨by decide, by decide, by decide +kernel⟩, hk_tq3 212 (by decide +kernel) (by decide +kernel), hk_tq3 213 (by decide +kernel) (by decide +kernel)⟩
theorem ck_J0_492 : zcV RJ0 RJ0 yJ0_isLatin1_aae02 cJ0_isLatin1_aae02 1 (some .boolean) 492 0 := ⟨hk_tq3 224 (by decide +kernel) (by decide +kernel), hk_tq3 221 (by decide +kernel) (by decide +kernel), hk_tq1 23 (by decide +kernel) (by decide +kernel), ⟨by decide, by decide, by decide +kernel⟩, hk_tq3 222 (by decide +kernel) (by decide +kernel), hk_tq3 223 (by decide +kernel) (by decide +kernel)⟩
theorem ck_J0_495 : zcS RJ0 yJ1_charAt_3b067 cJ1_charAt_3b067 2 (some .char) 495 2 := ⟨hk_tq3 227 (by decide +kernel) (by decide +kernel), hk_tq3 225 (by decide +kernel) (by decide +kernel), hk_tq1 24 (by decide +kernel) (by decide +kernel), ⟨by decide, by decide, by decide +kernel⟩, hk_tq3 226 (by decide +kernel) (by decide +kernel)⟩
theorem ck_J1_9 : zcS RJ1 yJ0_checkIndex_df160 cJ0_checkIndex_df160 2 none 9 2 := ⟨hk_tq3 230 (by decide +kernel) (by decide +kernel), hk_tq3 228 (by decide +kernel) (by decide +kernel), hk_tq1 23 (by decide +kernel) (by decide +kernel), ⟨by decide, by decide, by decide +kernel⟩, hk_tq3 229 (by decide +kernel) (by decide +kernel)⟩
theorem ck_J0_1059 : zcS RJ0 yJ3_checkIndex_8e157 cJ3_checkIndex_8e157 3 (some .int) 1059 3 := ⟨hk_tq3 70 (by decide +kernel) (by decide +kernel), hk_tq3 233 (by decide +kernel) (by decide +kernel), hk_tq1 20 (by decide +kernel) (by decide +kernel), ⟨by decide, by decide, by decide +kernel⟩, hk_tq3 69 (by decide +kernel) (by decide +kernel)⟩
theorem ck_X5_60 : zcV RX5 RJ0 yJ0_length_8abf5 cJ0_length_8abf5 1 (some .int) 60 0 := ⟨hk_tq3 210 (by decide +kernel) (by decide +kernel), hk_tq3 207 (by decide +kernel) (by decide +kernel), hk_tq1 23 (by decide +kernel) (by decide +kernel), ⟨by decide, by decide, by decide +kernel⟩, hk_tq3 208 (by decide +kernel) (by decide +kernel), hk_tq3 209 (by decide +kernel) (by decide +kernel)⟩
theorem ck_X5_66 : zcV RX5 RJ0 yJ0_charAt_5068e cJ0_charAt_5068e 2 (some .char) 66 1 := ⟨hk_tq3 220 (by decide +kernel) (by decide +kernel), hk_tq3 217 (by decide +kernel) (by decide +kernel), hk_tq1 23 (by decide +kernel) (by decide +kernel), ⟨by decide, by decide, by decide +kernel⟩, hk_tq3 218 (by decide +kernel) (by decide +kernel), hk_tq3 219 (by decide +kernel) (by decide +kernel)⟩
theorem fl_J0_38 : Cond.fieldLink RJ0 38 "java/lang/String" "COMPACT_STRINGS" "Z" ∈ hk_tb := hk_tq3 215 (by decide +kernel) (by decide +kernel)
theorem fl_J0_1053 : Cond.fieldLink RJ0 1053 "jdk/internal/util/Preconditions" "SIOOBE_FORMATTER" "Ljava/util/function/BiFunction;" ∈ hk_tb := hk_tq3 231 (by decide +kernel) (by decide +kernel)
theorem fl_J0_9 : Cond.fieldLink RJ0 9 "java/lang/String" "value" "[B" ∈ hk_tb := hk_tq7 131 (by decide +kernel) (by decide +kernel)
theorem fl_J0_15 : Cond.fieldLink RJ0 15 "java/lang/String" "coder" "B" ∈ hk_tb := hk_tq7 132 (by decide +kernel) (by decide +kernel)
theorem dJ0_coder_7d493_0 : decode cJ0_coder_7d493 0 = .ok (.getstatic 38, 3) := by decide +kernel
theorem dJ0_coder_7d493_3 : decode cJ0_coder_7d493 3 = .ok (.ifCond .eq 10, 3) := by decide +kernel
theorem dJ0_coder_7d493_6 : decode cJ0_coder_7d493 6 = .ok (.aload_n 0, 1) := by decide +kernel
theorem dJ0_coder_7d493_7 : decode cJ0_coder_7d493 7 = .ok (.getfield 15, 3) := by decide +kernel
theorem dJ0_coder_7d493_10 : decode cJ0_coder_7d493 10 = .ok (.goto 4, 3) := by decide +kernel
theorem dJ0_coder_7d493_13 : decode cJ0_coder_7d493 13 = .ok (.iconst 1, 1) := by decide +kernel
theorem dJ0_coder_7d493_14 : decode cJ0_coder_7d493 14 = .ok (.ireturn, 1) := by decide +kernel
theorem dJ0_isLatin1_aae02_0 : decode cJ0_isLatin1_aae02 0 = .ok (.getstatic 38, 3) := by decide +kernel
theorem dJ0_isLatin1_aae02_3 : decode cJ0_isLatin1_aae02 3 = .ok (.ifCond .eq 14, 3) := by decide +kernel
theorem dJ0_isLatin1_aae02_6 : decode cJ0_isLatin1_aae02 6 = .ok (.aload_n 0, 1) := by decide +kernel
theorem dJ0_isLatin1_aae02_7 : decode cJ0_isLatin1_aae02 7 = .ok (.getfield 15, 3) := by decide +kernel
theorem dJ0_isLatin1_aae02_10 : decode cJ0_isLatin1_aae02 10 = .ok (.ifCond .ne 7, 3) := by decide +kernel
theorem dJ0_isLatin1_aae02_13 : decode cJ0_isLatin1_aae02 13 = .ok (.iconst 1, 1) := by decide +kernel
theorem dJ0_isLatin1_aae02_14 : decode cJ0_isLatin1_aae02 14 = .ok (.goto 4, 3) := by decide +kernel
theorem dJ0_isLatin1_aae02_17 : decode cJ0_isLatin1_aae02 17 = .ok (.iconst 0, 1) := by decide +kernel
theorem dJ0_isLatin1_aae02_18 : decode cJ0_isLatin1_aae02 18 = .ok (.ireturn, 1) := by decide +kernel
theorem dJ0_length_8abf5_0 : decode cJ0_length_8abf5 0 = .ok (.aload_n 0, 1) := by decide +kernel
theorem dJ0_length_8abf5_1 : decode cJ0_length_8abf5 1 = .ok (.getfield 9, 3) := by decide +kernel
theorem dJ0_length_8abf5_4 : decode cJ0_length_8abf5 4 = .ok (.arraylength, 1) := by decide +kernel
theorem dJ0_length_8abf5_5 : decode cJ0_length_8abf5 5 = .ok (.aload_n 0, 1) := by decide +kernel
theorem dJ0_length_8abf5_6 : decode cJ0_length_8abf5 6 = .ok (.invokevirtual 335, 3) := by decide +kernel
theorem dJ0_length_8abf5_9 : decode cJ0_length_8abf5 9 = .ok (.ishr, 1) := by decide +kernel
theorem dJ0_length_8abf5_10 : decode cJ0_length_8abf5 10 = .ok (.ireturn, 1) := by decide +kernel
theorem dJ0_charAt_5068e_0 : decode cJ0_charAt_5068e 0 = .ok (.aload_n 0, 1) := by decide +kernel
theorem dJ0_charAt_5068e_1 : decode cJ0_charAt_5068e 1 = .ok (.invokevirtual 492, 3) := by decide +kernel
theorem dJ0_charAt_5068e_4 : decode cJ0_charAt_5068e 4 = .ok (.ifCond .eq 12, 3) := by decide +kernel
theorem dJ0_charAt_5068e_7 : decode cJ0_charAt_5068e 7 = .ok (.aload_n 0, 1) := by decide +kernel
theorem dJ0_charAt_5068e_8 : decode cJ0_charAt_5068e 8 = .ok (.getfield 9, 3) := by decide +kernel
theorem dJ0_charAt_5068e_11 : decode cJ0_charAt_5068e 11 = .ok (.iload_n 1, 1) := by decide +kernel
theorem dJ0_charAt_5068e_12 : decode cJ0_charAt_5068e 12 = .ok (.invokestatic 495, 3) := by decide +kernel
theorem dJ0_charAt_5068e_15 : decode cJ0_charAt_5068e 15 = .ok (.ireturn, 1) := by decide +kernel
theorem dJ0_charAt_5068e_16 : decode cJ0_charAt_5068e 16 = .ok (.aload_n 0, 1) := by decide +kernel
theorem dJ0_charAt_5068e_17 : decode cJ0_charAt_5068e 17 = .ok (.getfield 9, 3) := by decide +kernel
theorem dJ0_charAt_5068e_20 : decode cJ0_charAt_5068e 20 = .ok (.iload_n 1, 1) := by decide +kernel
theorem dJ0_charAt_5068e_21 : decode cJ0_charAt_5068e 21 = .ok (.invokestatic 498, 3) := by decide +kernel
theorem dJ0_charAt_5068e_24 : decode cJ0_charAt_5068e 24 = .ok (.ireturn, 1) := by decide +kernel
theorem dJ0_checkIndex_df160_0 : decode cJ0_checkIndex_df160 0 = .ok (.iload_n 0, 1) := by decide +kernel
theorem dJ0_checkIndex_df160_1 : decode cJ0_checkIndex_df160 1 = .ok (.iload_n 1, 1) := by decide +kernel
theorem dJ0_checkIndex_df160_2 : decode cJ0_checkIndex_df160 2 = .ok (.getstatic 1053, 3) := by decide +kernel
theorem dJ0_checkIndex_df160_5 : decode cJ0_checkIndex_df160 5 = .ok (.invokestatic 1059, 3) := by decide +kernel
theorem dJ0_checkIndex_df160_8 : decode cJ0_checkIndex_df160 8 = .ok (.pop, 1) := by decide +kernel
theorem dJ0_checkIndex_df160_9 : decode cJ0_checkIndex_df160 9 = .ok (.return_, 1) := by decide +kernel
theorem dJ1_charAt_3b067_0 : decode cJ1_charAt_3b067 0 = .ok (.iload_n 1, 1) := by decide +kernel
theorem dJ1_charAt_3b067_1 : decode cJ1_charAt_3b067 1 = .ok (.aload_n 0, 1) := by decide +kernel
theorem dJ1_charAt_3b067_2 : decode cJ1_charAt_3b067 2 = .ok (.arraylength, 1) := by decide +kernel
theorem dJ1_charAt_3b067_3 : decode cJ1_charAt_3b067 3 = .ok (.invokestatic 9, 3) := by decide +kernel
theorem dJ1_charAt_3b067_6 : decode cJ1_charAt_3b067 6 = .ok (.aload_n 0, 1) := by decide +kernel
theorem dJ1_charAt_3b067_7 : decode cJ1_charAt_3b067 7 = .ok (.iload_n 1, 1) := by decide +kernel
theorem dJ1_charAt_3b067_8 : decode cJ1_charAt_3b067 8 = .ok (.baload, 1) := by decide +kernel
theorem dJ1_charAt_3b067_9 : decode cJ1_charAt_3b067 9 = .ok (.sipush 255, 3) := by decide +kernel
theorem dJ1_charAt_3b067_12 : decode cJ1_charAt_3b067 12 = .ok (.iand, 1) := by decide +kernel
theorem dJ1_charAt_3b067_13 : decode cJ1_charAt_3b067 13 = .ok (.i2c, 1) := by decide +kernel
theorem dJ1_charAt_3b067_14 : decode cJ1_charAt_3b067 14 = .ok (.ireturn, 1) := by decide +kernel
/-! the words' text -/
def wch : List Int := [105, 102, 32, 97, 110, 100, 32, 110, 111, 116, 32, 99, 108, 101, 97, 114, 32, 114, 101, 102, 117, 115, 101, 32, 112, 97, 121, 32, 115, 111, 108, 100, 32, 115, 117, 109, 109, 101, 114, 32, 115, 108, 111, 116, 32, 112, 111, 119, 101, 114, 32, 110, 111, 116, 105, 99, 101, 32, 122, 111, 110, 101, 32, 115, 111, 114, 116, 32, 108, 111, 110, 103, 32, 119, 101, 101, 107, 32]
/-- what was there before, with the words' bytes -/
def tx9 (o : olP) : Prop := o.1 = wch.map iz
theorem wch_d : ∀ k, k < 78 → wch.drop k = wch.getD k 0 :: wch.drop (k + 1) := by decide +kernel
theorem wch_r : ∀ k, k < 78 → 32 ≤ wch.getD k 0 ∧ wch.getD k 0 ≤ 122 := by decide +kernel
theorem tx_at {o : olP} (h : tx9 o) {k : Nat} (hk : k < 78) : o.1.getD k 0 = iz (wch.getD k 0) := by
  unfold tx9 at h
  rw [h]
  have : ∀ k, k < 78 → (wch.map iz).getD k 0 = iz (wch.getD k 0) := by decide +kernel
  exact this k hk
theorem ch_i2c : ∀ k, k < 78 → ((iz (wch.getD k 0 % 2 ^ 8)).toUInt32 % 65536).toInt32 = iz (wch.getD k 0) := by decide +kernel
theorem ch_nar : ∀ k, k < 78 → narrow .char (.int (iz (wch.getD k 0))) = .int (iz (wch.getD k 0)) := by decide +kernel
section ZST
variable {p : Program} {l : Launch} {e : Env} {R : Room} {s : State} {m : MethodId} {args : Array Value} {below : List Frame} {meth : Method} {c : Code} {nL : Nat} {Q : State → Prop} {pc : Nat} {loc : List (Nat × Value)} {stk : List Value} {cc : ByteArray} {D : va_G} {ar : Nat → ClassId} {B : Nat → Prop} {w : zcW} {n : Nat} {H0 : Heap} {own : String} {cells slots : Nat} {o : olP}
theorem zc_vaN {H : Heap} (h : zc_I D B w n s.heap H) (hn : s.heap.size ≤ n) : va_S B s.heap H [] := zc_vaS h (fun x hx => absurd hx List.not_mem_nil) hn
theorem zo_sget (C : CallFix p m c cc nL s args hk_tb own) {oo nn dd ref : String} {v : Value} {idx q : Nat} (hE : va_OF oo nn dd v q B s s.heap) (hn : s.heap.size ≤ n) (hl : Cond.fieldLink own idx ref nn dd ∈ hk_tb) (hr : oo = ref) (d : decode cc pc = .ok (.getfield idx, 3)) (k : hvV p l e R s m args below meth c nL B cells slots Q (zc_I D B w n s.heap) (pc + 3) loc (v :: stk)) : hvV p l e R s m args below meth c nL B cells slots Q (zc_I D B w n s.heap) pc loc (.ref q :: stk) := by
  subst hr
  exact fun H locs ls h1 h2 h3 => vk_getf C.1 C.2.1 hE (zc_vaS h1 h2 hn) C.2.2.2.1 (C.2.2.2.2 _ hl) (fun _ z => z) d (k H locs ls h1 h2 h3)
theorem zo_tb (C : CallFix p m c cc nL s args hk_tb own) {t N : Nat} {f : Nat → Value} {v : Value} (i : Nat) (hT : va_T .byte t N f B s s.heap) (hn : s.heap.size ≤ n) (hi : i < N) (hN : N ≤ 2147483647) (hv : f i = v) (d : decode cc pc = .ok (.baload, 1)) (k : hvV p l e R s m args below meth c nL B cells slots Q (zc_I D B w n s.heap) (pc + 1) loc (v :: stk)) : hvV p l e R s m args below meth c nL B cells slots Q (zc_I D B w n s.heap) pc loc (.int (iz ((i : Nat) : Int)) :: .ref t :: stk) := fun H locs ls h1 h2 h3 => va_tb C.1 C.2.1 hT (zc_vaS h1 h2 hn) (iz_in (by omega) (by omega) hN) (by rw [iz_clamp (by omega) (by omega)]; exact hv) d (k H locs ls h1 h2 h3)
theorem zo_ldcS (C : CallFix p m c cc nL s args hk_tb own) {tx : String} {idx q : Nat} (hZ : vk_R own idx tx q s) (d : decode cc pc = .ok (.ldc idx, 2)) (k : hvV p l e R s m args below meth c nL B cells slots Q (zc_I D B w n s.heap) (pc + 2) loc (.ref q :: stk)) : hvV p l e R s m args below meth c nL B cells slots Q (zc_I D B w n s.heap) pc loc stk := fun H locs ls h1 h2 h3 => va_ldcS C.1 C.2.1 C.2.2.2.1 hZ d (k H locs ls h1 h2 h3)
theorem hv_i2cq {FR : Nat → Prop} {HI : Heap → Prop} (C : CallFix p m c cc nL s args hk_tb own) {x v : Int} (hv : ((iz x).toUInt32 % 65536).toInt32 = iz v) (d : decode cc pc = .ok (.i2c, 1)) (k : hvV p l e R s m args below meth c nL FR cells slots Q HI (pc + 1) loc (.int (iz v) :: stk)) : hvV p l e R s m args below meth c nL FR cells slots Q HI pc loc (.int (iz x) :: stk) := fun H locs ls h1 h2 h3 => lv_i2c C.1 C.2.1 d hv (k H locs ls h1 h2 h3)
theorem zc_nret (C : CallFix p m c cc nL s args hk_tb own) {ty : FieldType} (hr : meth.sig.returnType = some ty) (hlk : meth.locks = false) {x : Int} (hn : narrow ty (.int (iz x)) = .int (iz x)) {Po : Option Value → zcW → Nat → Prop} (hp : Po (some (.int (iz x))) w n) (d : decode cc pc = .ok (.ireturn, 1)) : hvV p l e R s m args below meth c nL B cells slots (MQ below (zc_Q D B Po) args s cells slots B) (zc_I D B w n s.heap) pc loc [.int (iz x)] := by
  intro H locs ls h1 h2 h3
  exact W.zret C.1 C.2.1 hr hn (fun t ht hW => ⟨_, _, _, hp, rfl, by rw [ht]; exact h1⟩) h2 d hlk
theorem zo_callVs {y : MethodName} {bytes : ByteArray} {maxL : Nat} {ret : Option FieldType} {fr lo idx mc ms : Nat} {Po : Option Value → zcW → Nat → Prop} (As rest : List Value) (C : CallFix p m c cc nL s args hk_tb own) (K : clK D ar s) (O : olk B o s) (hn : s.heap.size ≤ n) (hM : zo_M l D ar B o y bytes maxL ret fr lo mc ms (.ref o.2.2.1 :: As) w n Po) (ck : zcV own "java/lang/String" y bytes maxL ret idx As.length) (hR : fr + 1 ≤ R.frames ∧ 8 + (maxL + 11) + lo ≤ R.locals) (hf : cells + mc ≤ R.cells ∧ slots + ms ≤ R.slots) (hs : stk = As.reverse ++ .ref o.2.2.1 :: rest) (hW : (rest.map fun v => v.category).sum ≤ 8) (d : decode cc pc = .ok (.invokevirtual idx, 3)) (k : ∀ r w' n', Po r w' n' → hvV p l e R s m args below meth c nL B (cells + mc) (slots + ms) Q (zc_I D B w' n' s.heap) (pc + 3) loc (r.toList ++ rest)) : hvV p l e R s m args below meth c nL B cells slots Q (zc_I D B w n s.heap) pc loc stk :=
  zc_go (fun H locs ls h1 h3 => va_runV (Ts := hk_tb) (As := As) (b := o.2.2.1) (rest := rest) C hM (C := "java/lang/String") (n := As.length) ⟨callB_of As.length C.2.2.2.2 (hk_goodIn ck.1) rfl rfl rfl (C.2.2.2.2 _ ck.2.2.1) (C.2.2.2.2 _ ck.2.1) ck.2.2.2.1 hR, C.2.2.2.2 _ ck.2.2.2.2.1, C.2.2.2.2 _ ck.2.2.2.2.2⟩ ⟨fun a U g mk q => ⟨q.1, ⟨q.2.1.1, q.2.1.2.1, q.2.1.2.2.1, clK.blind (U := U.calling g mk a) rfl q.2.1.2.2.2⟩, olK.blind (U := U.calling g mk a) rfl rfl q.2.2⟩, vk_recv (i := 0) O.2.2.2.2.2.1 (by decide) (zc_vaN h1 hn), fun U hU hW => ⟨rfl, ⟨by rw [hU]; exact h1.1, by rw [hU]; exact h1.2.1, h1.2.2.1, K.warm hW⟩, O.at h1 hU hW⟩⟩ rfl rfl h3.1 hs (lv_room hW) d hf) k
end ZST
section STR
variable (l : Launch) {D : va_G} {ar : Nat → ClassId} {B : Nat → Prop} {n : Nat} {w : zcW} {o : olP}
set_option maxRecDepth 100000 in
theorem g_coder : zo_M l D ar B o yJ0_coder_7d493 cJ0_coder_7d493 1 (some .byte) 0 0 0 0 [.ref o.2.2.1] w n (fun r' w' n' => r' = some (.int (iz 0)) ∧ w' = w ∧ n' = n) := by
  refine zo_start (own := RJ0) (by decide +kernel) rfl (Nat.le_of_ble_eq_true rfl) ?_
  intro p e s m args below meth c C K O hz hr hlk hnam
  refine zo_gets C O.2.2.2.2.2.2.1 (by omega) fl_J0_38 rfl dJ0_coder_7d493_0 ?_
  refine hv_asv (.int (iz 1)) rfl ?_
  refine hv_if_eq C 13 dJ0_coder_7d493_3 (by decide) (by decide) (fun h => absurd h (by decide)) (fun _ => ?_)
  refine hv_aload_n C 0 0 dJ0_coder_7d493_6 rfl rfl ?_
  refine zo_sget C ((O.2.2.2.2.2.1).1 0 (by decide)).2.1 (by omega) fl_J0_15 rfl dJ0_coder_7d493_7 ?_
  refine hv_goto C 14 dJ0_coder_7d493_10 (by decide) ?_
  refine hv_asv (.int (iz 0)) rfl ?_
  exact zc_nret C hr hlk (by decide) ⟨rfl, rfl, rfl⟩ dJ0_coder_7d493_14
set_option maxRecDepth 100000 in
theorem g_latin : zo_M l D ar B o yJ0_isLatin1_aae02 cJ0_isLatin1_aae02 1 (some .boolean) 0 0 0 0 [.ref o.2.2.1] w n (fun r' w' n' => r' = some (.int (iz 1)) ∧ w' = w ∧ n' = n) := by
  refine zo_start (own := RJ0) (by decide +kernel) rfl (Nat.le_of_ble_eq_true rfl) ?_
  intro p e s m args below meth c C K O hz hr hlk hnam
  refine zo_gets C O.2.2.2.2.2.2.1 (by omega) fl_J0_38 rfl dJ0_isLatin1_aae02_0 ?_
  refine hv_asv (.int (iz 1)) rfl ?_
  refine hv_if_eq C 17 dJ0_isLatin1_aae02_3 (by decide) (by decide) (fun h => absurd h (by decide)) (fun _ => ?_)
  refine hv_aload_n C 0 0 dJ0_isLatin1_aae02_6 rfl rfl ?_
  refine zo_sget C ((O.2.2.2.2.2.1).1 0 (by decide)).2.1 (by omega) fl_J0_15 rfl dJ0_isLatin1_aae02_7 ?_
  refine hv_asv (.int (iz 0)) rfl ?_
  refine hv_if_ne C 17 dJ0_isLatin1_aae02_10 (by decide) (by decide) (fun h => absurd h (by decide)) (fun _ => ?_)
  refine hv_iconst C dJ0_isLatin1_aae02_13 ?_
  refine hv_goto C 18 dJ0_isLatin1_aae02_14 (by decide) ?_
  exact zc_nret C hr hlk (by decide) ⟨rfl, rfl, rfl⟩ dJ0_isLatin1_aae02_18
set_option maxRecDepth 100000 in
theorem g_slen : zo_M l D ar B o yJ0_length_8abf5 cJ0_length_8abf5 1 (some .int) 1 30 0 0 [.ref o.2.2.1] w n (fun r' w' n' => r' = some (.int (iz 78)) ∧ w' = w ∧ n' = n) := by
  refine zo_start (own := RJ0) (by decide +kernel) rfl (Nat.le_of_ble_eq_true rfl) ?_
  intro p e s m args below meth c C K O hz hr hlk hnam
  refine hv_aload_n C 0 0 dJ0_length_8abf5_0 rfl rfl ?_
  refine zo_sget C ((O.2.2.2.2.2.1).1 0 (by decide)).2.2.1 (by omega) fl_J0_9 rfl dJ0_length_8abf5_1 ?_
  refine zo_tlen C (N := 78) ((O.2.2.2.2.2.1).1 0 (by decide)).2.2.2 (by omega) (by decide) dJ0_length_8abf5_4 ?_
  refine hv_aload_n C 0 0 dJ0_length_8abf5_5 rfl rfl ?_
  refine zo_callVs [] [.int (iz ((78 : Nat) : Int))] C K O (by omega) (g_coder l) ck_J0_335 (by decide) (by decide) rfl (Nat.le_of_ble_eq_true rfl) dJ0_length_8abf5_6 ?_
  rintro r' w' n' ⟨h1, h2, h3⟩
  subst h1; subst h2; subst h3
  refine hv_ishr C 0 (by decide) (by decide) (by decide) dJ0_length_8abf5_9 ?_
  exact zc_iret C hr hlk ⟨rfl, rfl, rfl⟩ dJ0_length_8abf5_10
set_option maxRecDepth 100000 in
theorem g_check3r {t : Nat} (i z : Int) (r_i : inI i) (r_z : inI z) (hb : 0 ≤ i ∧ i < z) : zc_M l D ar B yJ3_checkIndex_8e157 cJ3_checkIndex_8e157 3 (some .int) 0 0 0 0 [.int (iz i), .int (iz z), .ref t] w n (fun r' w' n' => r' = some (.int (iz i)) ∧ w' = w ∧ n' = n) := by
  refine zc_start (own := RJ3) (by decide +kernel) rfl (Nat.le_of_ble_eq_true rfl) ?_
  intro p e s m args below meth c C K hr hlk hnam
  refine hv_iload_n C 0 0 dJ3_checkIndex_8e157_0 rfl rfl ?_
  refine hv_if_lt C 9 dJ3_checkIndex_8e157_1 (by decide) (by omega) (fun h1 => absurd h1 (by omega)) (fun h1 => ?_)
  refine hv_iload_n C 0 0 dJ3_checkIndex_8e157_4 rfl rfl ?_
  refine hv_iload_n C 1 1 dJ3_checkIndex_8e157_5 rfl rfl ?_
  refine hv_icmp_lt C 16 dJ3_checkIndex_8e157_6 (by decide) (by omega) (by omega) (fun h6 => ?_) (fun h6 => absurd hb.2 (by omega))
  refine hv_iload_n C 0 0 dJ3_checkIndex_8e157_16 rfl rfl ?_
  exact zc_iret C hr hlk ⟨rfl, rfl, rfl⟩ dJ3_checkIndex_8e157_17
set_option maxRecDepth 100000 in
theorem g_scheck (i z : Int) (r_i : inI i) (r_z : inI z) (hb : 0 ≤ i ∧ i < z) : zo_M l D ar B o yJ0_checkIndex_df160 cJ0_checkIndex_df160 2 none 1 30 0 0 [.int (iz i), .int (iz z)] w n (fun r' w' n' => r' = none ∧ w' = w ∧ n' = n) := by
  refine zo_start (own := RJ0) (by decide +kernel) rfl (Nat.le_of_ble_eq_true rfl) ?_
  intro p e s m args below meth c C K O hz hr hlk hnam
  refine hv_iload_n C 0 0 dJ0_checkIndex_df160_0 rfl rfl ?_
  refine hv_iload_n C 1 1 dJ0_checkIndex_df160_1 rfl rfl ?_
  rcases O.2.2.2.2.2.2.2 with hq | ⟨t, hq⟩
  · refine zo_gets C hq (by omega) fl_J0_1053 rfl dJ0_checkIndex_df160_2 ?_
    refine zg_callS [.int (iz i), .int (iz z), .null] [] C K (g_check3 l i z r_i r_z hb) ck_J0_1059 (by decide) (by decide) rfl (Nat.le_of_ble_eq_true rfl) dJ0_checkIndex_df160_5 (fun r' w' n' h => h) ?_
    refine hv_pop C dJ0_checkIndex_df160_8 rfl ?_
    exact zc_vret C hr hlk ⟨rfl, rfl, rfl⟩ dJ0_checkIndex_df160_9
  · refine zo_gets C hq (by omega) fl_J0_1053 rfl dJ0_checkIndex_df160_2 ?_
    refine zg_callS [.int (iz i), .int (iz z), .ref t] [] C K (g_check3r l i z r_i r_z hb) ck_J0_1059 (by decide) (by decide) rfl (Nat.le_of_ble_eq_true rfl) dJ0_checkIndex_df160_5 (fun r' w' n' h => h) ?_
    refine hv_pop C dJ0_checkIndex_df160_8 rfl ?_
    exact zc_vret C hr hlk ⟨rfl, rfl, rfl⟩ dJ0_checkIndex_df160_9
set_option maxRecDepth 100000 in
theorem g_lchar (k : Nat) (hk : k < 78) (ht : tx9 o) : zo_M l D ar B o yJ1_charAt_3b067 cJ1_charAt_3b067 2 (some .char) 2 60 0 0 [.ref o.2.2.2.1, .int (iz ((k : Nat) : Int))] w n (fun r' w' n' => r' = some (.int (iz (wch.getD k 0))) ∧ w' = w ∧ n' = n) := by
  refine zo_start (own := RJ1) (by decide +kernel) rfl (Nat.le_of_ble_eq_true rfl) ?_
  intro p e s m args below meth c C K O hz hr hlk hnam
  refine hv_iload_n C 1 1 dJ1_charAt_3b067_0 rfl rfl ?_
  refine hv_aload_n C 0 0 dJ1_charAt_3b067_1 rfl rfl ?_
  refine zo_tlen C (N := 78) ((O.2.2.2.2.2.1).1 0 (by decide)).2.2.2 (by omega) (by decide) dJ1_charAt_3b067_2 ?_
  refine zo_callS [.int (iz ((k : Nat) : Int)), .int (iz ((78 : Nat) : Int))] [] C K O (g_scheck l ((k : Nat) : Int) ((78 : Nat) : Int) (by omega) (by decide) (by omega)) ck_J1_9 (by decide) (by decide) rfl (Nat.le_of_ble_eq_true rfl) dJ1_charAt_3b067_3 ?_
  rintro r' w' n' ⟨h1, h2, h3⟩
  subst h1; subst h2; subst h3
  refine hv_aload_n C 0 0 dJ1_charAt_3b067_6 rfl rfl ?_
  refine hv_iload_n C 1 1 dJ1_charAt_3b067_7 rfl rfl ?_
  refine zo_tb C (N := 78) k ((O.2.2.2.2.2.1).1 0 (by decide)).2.2.2 (by omega) hk (by decide) (v := .int (iz (wch.getD k 0))) (by show Value.int (o.1.getD k 0) = _; rw [tx_at ht hk]) dJ1_charAt_3b067_8 ?_
  refine hv_sipush C dJ1_charAt_3b067_9 (by decide) ?_
  refine hv_imsk C 8 (by decide) (by decide) dJ1_charAt_3b067_12 ?_
  refine hv_i2cq C (v := wch.getD k 0) (ch_i2c k hk) dJ1_charAt_3b067_13 ?_
  exact zc_nret C hr hlk (ch_nar k hk) ⟨rfl, rfl, rfl⟩ dJ1_charAt_3b067_14
set_option maxRecDepth 100000 in
theorem g_char (k : Nat) (hk : k < 78) (ht : tx9 o) : zo_M l D ar B o yJ0_charAt_5068e cJ0_charAt_5068e 2 (some .char) 3 90 0 0 [.ref o.2.2.1, .int (iz ((k : Nat) : Int))] w n (fun r' w' n' => r' = some (.int (iz (wch.getD k 0))) ∧ w' = w ∧ n' = n) := by
  refine zo_start (own := RJ0) (by decide +kernel) rfl (Nat.le_of_ble_eq_true rfl) ?_
  intro p e s m args below meth c C K O hz hr hlk hnam
  refine hv_aload_n C 0 0 dJ0_charAt_5068e_0 rfl rfl ?_
  refine zo_callVs [] [] C K O (by omega) (g_latin l) ck_J0_492 (by decide) (by decide) rfl (Nat.le_of_ble_eq_true rfl) dJ0_charAt_5068e_1 ?_
  rintro r' w' n' ⟨h1, h2, h3⟩
  subst h1; subst h2; subst h3
  refine hv_if_eq C 16 dJ0_charAt_5068e_4 (by decide) (by decide) (fun h => absurd h (by decide)) (fun _ => ?_)
  refine hv_aload_n C 0 0 dJ0_charAt_5068e_7 rfl rfl ?_
  refine zo_sget C ((O.2.2.2.2.2.1).1 0 (by decide)).2.2.1 (by omega) fl_J0_9 rfl dJ0_charAt_5068e_8 ?_
  refine hv_iload_n C 1 1 dJ0_charAt_5068e_11 rfl rfl ?_
  refine zo_callS [.ref o.2.2.2.1, .int (iz ((k : Nat) : Int))] [] C K O (g_lchar l k hk ht) ck_J0_495 (by decide) (by decide) rfl (Nat.le_of_ble_eq_true rfl) dJ0_charAt_5068e_12 ?_
  rintro r' w' n' ⟨h1, h2, h3⟩
  subst h1; subst h2; subst h3
  exact zc_nret C hr hlk (ch_nar k hk) ⟨rfl, rfl, rfl⟩ dJ0_charAt_5068e_15
end STR

