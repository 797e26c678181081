/-! what the tables and the Statement say of the start -/
theorem lt_q1 {w : Cond} (i : Nat) (h : tables_1_1[i]? = some w) : w ∈ lw_tbl := List.mem_append_right _ (List.mem_append_left _ (List.mem_of_getElem? h))
theorem lt_q2 {w : Cond} (i : Nat) (h : tables_1_2[i]? = some w) : w ∈ lw_tbl := List.mem_append_right _ (List.mem_append_right _ (List.mem_append_left _ (List.mem_of_getElem? h)))
theorem lt_q3 {w : Cond} (i : Nat) (h : tables_1_3[i]? = some w) : w ∈ lw_tbl := List.mem_append_right _ (List.mem_append_right _ (List.mem_append_right _ (List.mem_append_left _ (List.mem_of_getElem? h))))
theorem lt_q4 {w : Cond} (i : Nat) (h : tables_1_4[i]? = some w) : w ∈ lw_tbl := List.mem_append_right _ (List.mem_append_right _ (List.mem_append_right _ (List.mem_append_right _ (List.mem_append_left _ (List.mem_of_getElem? h)))))
theorem lt_q5 {w : Cond} (i : Nat) (h : tables_1_5[i]? = some w) : w ∈ lw_tbl := List.mem_append_right _ (List.mem_append_right _ (List.mem_append_right _ (List.mem_append_right _ (List.mem_append_right _ (List.mem_append_left _ (List.mem_of_getElem? h))))))
theorem lt_q6 {w : Cond} (i : Nat) (h : tables_1_6[i]? = some w) : w ∈ lw_tbl := List.mem_append_right _ (List.mem_append_right _ (List.mem_append_right _ (List.mem_append_right _ (List.mem_append_right _ (List.mem_append_right _ (List.mem_append_left _ (List.mem_of_getElem? h)))))))
theorem lt_q7 {w : Cond} (i : Nat) (h : tables_1_7[i]? = some w) : w ∈ lw_tbl := List.mem_append_right _ (List.mem_append_right _ (List.mem_append_right _ (List.mem_append_right _ (List.mem_append_right _ (List.mem_append_right _ (List.mem_append_right _ (List.mem_of_getElem? h)))))))
theorem st_nwM {a : Array Value} {s : State} (hts : ∀ w ∈ lw_tbl, w.before a s = true) : ∀ q ∈ nwM, va_Nw (.methodLinkNest q.1 q.2.1 q.2.2.1 q.2.2.2) s := by
  have z : ∀ (x : Cond), x ∈ lw_tbl → x.onTables = true → va_Nw x s := fun x h1 h2 => va_Nw.of h2 (hts x h1)
  exact List.forall_mem_cons.mpr ⟨z _ (lt_q1 210 (by decide +kernel)) rfl, List.forall_mem_cons.mpr ⟨z _ (lt_q1 233 (by decide +kernel)) rfl, List.forall_mem_cons.mpr ⟨z _ (lt_q2 38 (by decide +kernel)) rfl, List.forall_mem_cons.mpr ⟨z _ (lt_q4 97 (by decide +kernel)) rfl, List.forall_mem_cons.mpr ⟨z _ (lt_q4 36 (by decide +kernel)) rfl, List.forall_mem_cons.mpr ⟨z _ (lt_q2 43 (by decide +kernel)) rfl, List.forall_mem_cons.mpr ⟨z _ (lt_q1 71 (by decide +kernel)) rfl, List.forall_mem_cons.mpr ⟨z _ (lt_q1 104 (by decide +kernel)) rfl, List.forall_mem_cons.mpr ⟨z _ (lt_q4 147 (by decide +kernel)) rfl, fun _ h => absurd h List.not_mem_nil⟩⟩⟩⟩⟩⟩⟩⟩⟩
theorem st_nwC {a : Array Value} {s : State} (hts : ∀ w ∈ lw_tbl, w.before a s = true) : ∀ q ∈ nwC, va_Nw (.castable q.1 q.2) s := by
  have z : ∀ (x : Cond), x ∈ lw_tbl → x.onTables = true → va_Nw x s := fun x h1 h2 => va_Nw.of h2 (hts x h1)
  exact List.forall_mem_cons.mpr ⟨z _ (lt_q7 109 (by decide +kernel)) rfl, List.forall_mem_cons.mpr ⟨z _ (lt_q7 120 (by decide +kernel)) rfl, List.forall_mem_cons.mpr ⟨z _ (lt_q7 107 (by decide +kernel)) rfl, List.forall_mem_cons.mpr ⟨z _ (lt_q7 111 (by decide +kernel)) rfl, List.forall_mem_cons.mpr ⟨z _ (lt_q7 119 (by decide +kernel)) rfl, List.forall_mem_cons.mpr ⟨z _ (lt_q7 118 (by decide +kernel)) rfl, List.forall_mem_cons.mpr ⟨z _ (lt_q7 114 (by decide +kernel)) rfl, List.forall_mem_cons.mpr ⟨z _ (lt_q7 113 (by decide +kernel)) rfl, List.forall_mem_cons.mpr ⟨z _ (lt_q7 117 (by decide +kernel)) rfl, List.forall_mem_cons.mpr ⟨z _ (lt_q7 108 (by decide +kernel)) rfl, List.forall_mem_cons.mpr ⟨z _ (lt_q7 116 (by decide +kernel)) rfl, List.forall_mem_cons.mpr ⟨z _ (lt_q7 112 (by decide +kernel)) rfl, List.forall_mem_cons.mpr ⟨z _ (lt_q7 115 (by decide +kernel)) rfl, List.forall_mem_cons.mpr ⟨z _ (lt_q7 127 (by decide +kernel)) rfl, List.forall_mem_cons.mpr ⟨z _ (lt_q7 126 (by decide +kernel)) rfl, List.forall_mem_cons.mpr ⟨z _ (lt_q7 125 (by decide +kernel)) rfl, List.forall_mem_cons.mpr ⟨z _ (lt_q7 128 (by decide +kernel)) rfl, List.forall_mem_cons.mpr ⟨z _ (lt_q7 129 (by decide +kernel)) rfl, List.forall_mem_cons.mpr ⟨z _ (lt_q7 130 (by decide +kernel)) rfl, List.forall_mem_cons.mpr ⟨z _ (lt_q7 121 (by decide +kernel)) rfl, List.forall_mem_cons.mpr ⟨z _ (lt_q7 110 (by decide +kernel)) rfl, fun _ h => absurd h List.not_mem_nil⟩⟩⟩⟩⟩⟩⟩⟩⟩⟩⟩⟩⟩⟩⟩⟩⟩⟩⟩⟩⟩
theorem st_prim {a : Array Value} {s : State} {ty : FieldType} (hp : ∀ U cA, va_RA U cA ty = (U.vm.findClass ("[" ++ ty.toString) = some cA)) (h : (Cond.arrayClass ty).before a s = true) : ∃ cA : ClassId, s.vm.findClass ("[" ++ ty.toString) = some cA ∧ ArrOfT s cA ty ∧ va_RA s cA ty := by
  obtain ⟨cA, k9, comp, h1, h2, h3⟩ := Cond.arrayClass_spec h
  exact ⟨cA, h1, fun n z => ⟨fun k h => (by cases h), k9, h2, comp, h3⟩, by rw [hp]; exact h1⟩
theorem st_obj {a : Array Value} {s : State} {E : String} (h : (Cond.arrayOver (.object E)).before a s = true) : ∃ cA : ClassId, s.vm.findClass ("[" ++ (FieldType.object E).toString) = some cA ∧ ArrOfT s cA (.object E) ∧ va_RA s cA (.object E) := by
  obtain ⟨comp, cA, k9, h1, h2, h3, h4, h5⟩ := Cond.arrayOver_spec h
  exact ⟨cA, h5, fun n z => ⟨fun k h => (by cases h), k9, h3, comp, h4⟩, k9, comp, h3, h4, h1, h5⟩
theorem st_cls {a : Array Value} {s : State} (hts : ∀ w ∈ hk_tb, w.before a s = true) : ∃ D : va_G, ∀ (k : Nat) (q : vw_C), vwCl[k]? = some q → u_Kn s q.1 q.2.1 q.2.2 (D.1 k) (D.2 k) := by
  obtain ⟨c0, i0, h0⟩ := u_known (C := RJx4a65c) (T := TJx4a65c) (N := 3) (n := 3) hts hu_0 (hts (.instantiable RJx4a65c 3) (hk_tq1 42 (by decide +kernel) (by decide +kernel)))
  obtain ⟨c1, i1, h1⟩ := u_known (C := RX0) (T := TX0) (N := 5) (n := 5) hts hu_1 (hts (.instantiable RX0 5) (hk_tq3 135 (by decide +kernel) (by decide +kernel)))
  obtain ⟨c2, i2, h2⟩ := u_known (C := RX1) (T := TX1) (N := 4) (n := 4) hts hu_2 (hts (.instantiable RX1 4) (hk_tq1 103 (by decide +kernel) (by decide +kernel)))
  obtain ⟨c3, i3, h3⟩ := u_known (C := RX2) (T := TX2) (N := 7) (n := 7) hts hu_3 (hts (.instantiable RX2 7) (hk_tq1 70 (by decide +kernel) (by decide +kernel)))
  obtain ⟨c4, i4, h4⟩ := u_known (C := RX3) (T := TX3) (N := 7) (n := 7) hts hu_4 (hts (.instantiable RX3 7) (hk_tq3 88 (by decide +kernel) (by decide +kernel)))
  obtain ⟨c5, i5, h5⟩ := u_known (C := RX4) (T := TX4) (N := 4) (n := 4) hts hu_5 (hts (.instantiable RX4 4) (hk_tq3 30 (by decide +kernel) (by decide +kernel)))
  obtain ⟨c6, i6, h6⟩ := u_known (C := RX5) (T := TX5) (N := 8) (n := 8) hts hu_6 (hts (.instantiable RX5 8) (hk_tq2 37 (by decide +kernel) (by decide +kernel)))
  obtain ⟨c7, i7, h7⟩ := u_known (C := RX6) (T := TX6) (N := 12) (n := 12) hts hu_7 (hts (.instantiable RX6 12) (hk_tq1 232 (by decide +kernel) (by decide +kernel)))
  obtain ⟨c8, i8, h8⟩ := u_known (C := RX7) (T := TX7) (N := 3) (n := 3) hts hu_8 (hts (.instantiable RX7 3) (hk_tq2 203 (by decide +kernel) (by decide +kernel)))
  obtain ⟨c9, i9, h9⟩ := u_known (C := RX8) (T := TX8) (N := 20) (n := 20) hts hu_9 (hts (.instantiable RX8 20) (hk_tq1 36 (by decide +kernel) (by decide +kernel)))
  obtain ⟨c10, i10, h10⟩ := u_known (C := RX9) (T := TX9) (N := 4) (n := 4) hts hu_10 (hts (.instantiable RX9 4) (hk_tq2 111 (by decide +kernel) (by decide +kernel)))
  obtain ⟨c11, i11, h11⟩ := u_known (C := RX10) (T := TX10) (N := 5) (n := 5) hts hu_11 (hts (.instantiable RX10 5) (hk_tq1 209 (by decide +kernel) (by decide +kernel)))
  obtain ⟨c12, i12, h12⟩ := u_known (C := RX11) (T := TX11) (N := 6) (n := 6) hts hu_12 (hts (.instantiable RX11 6) (hk_tq1 28 (by decide +kernel) (by decide +kernel)))
  obtain ⟨c13, i13, h13⟩ := u_known (C := RX12) (T := TX12) (N := 28) (n := 28) hts hu_13 (hts (.instantiable RX12 28) (hk_tq5 122 (by decide +kernel) (by decide +kernel)))
  refine ⟨(fun k => if k = 0 then c0 else if k = 1 then c1 else if k = 2 then c2 else if k = 3 then c3 else if k = 4 then c4 else if k = 5 then c5 else if k = 6 then c6 else if k = 7 then c7 else if k = 8 then c8 else if k = 9 then c9 else if k = 10 then c10 else if k = 11 then c11 else if k = 12 then c12 else c13, fun k => if k = 0 then i0 else if k = 1 then i1 else if k = 2 then i2 else if k = 3 then i3 else if k = 4 then i4 else if k = 5 then i5 else if k = 6 then i6 else if k = 7 then i7 else if k = 8 then i8 else if k = 9 then i9 else if k = 10 then i10 else if k = 11 then i11 else if k = 12 then i12 else i13), ?_⟩
  intro k q hq
  match k, hq with
  | 0, hq => cases hq; exact h0
  | 1, hq => cases hq; exact h1
  | 2, hq => cases hq; exact h2
  | 3, hq => cases hq; exact h3
  | 4, hq => cases hq; exact h4
  | 5, hq => cases hq; exact h5
  | 6, hq => cases hq; exact h6
  | 7, hq => cases hq; exact h7
  | 8, hq => cases hq; exact h8
  | 9, hq => cases hq; exact h9
  | 10, hq => cases hq; exact h10
  | 11, hq => cases hq; exact h11
  | 12, hq => cases hq; exact h12
  | 13, hq => cases hq; exact h13
  | k + 14, hq => simp [vwCl] at hq
theorem st_clK {a : Array Value} {s : State} (hts : ∀ w ∈ lw_tbl, w.before a s = true) : ∃ (D : va_G) (ar : Nat → ClassId), clK D ar s := by
  obtain ⟨D, hD⟩ := st_cls (fun w hw => hts w (List.mem_filter.mp hw).1)
  obtain ⟨r0, n0, a0, b0⟩ := st_prim (ty := .int) (fun _ _ => rfl) (hts _ (lt_q1 101 (by decide +kernel)))
  obtain ⟨r1, n1, a1, b1⟩ := st_prim (ty := .byte) (fun _ _ => rfl) (hts _ (lt_q1 102 (by decide +kernel)))
  obtain ⟨r5, n5, a5, b5⟩ := st_prim (ty := .boolean) (fun _ _ => rfl) (hts _ (lt_q5 212 (by decide +kernel)))
  have o2 := hts (Cond.arrayOver (.object "java/lang/Object")) (lt_q2 185 (by decide +kernel))
  obtain ⟨r2, n2, a2, b2⟩ := st_obj o2
  have o3 := hts (Cond.arrayOver (.object "HookUps$Contract")) (lt_q1 68 (by decide +kernel))
  obtain ⟨r3, n3, a3, b3⟩ := st_obj o3
  have o4 := hts (Cond.arrayOver (.object "HookUps$Told")) (lt_q1 207 (by decide +kernel))
  obtain ⟨r4, n4, a4, b4⟩ := st_obj o4
  refine ⟨D, fun j => if j = 0 then r0 else if j = 1 then r1 else if j = 2 then r2 else if j = 3 then r3 else if j = 4 then r4 else r5, ⟨hD, ?_⟩, st_nwM hts, st_nwC hts, ⟨n0, n1, n2, n3, n4, n5⟩, va_AO.of o2, va_AO.of o3, va_AO.of o4⟩
  intro k q hk
  match k, hk with
  | 0, hk => cases hk; exact ⟨a0, b0⟩
  | 1, hk => cases hk; exact ⟨a1, b1⟩
  | 2, hk => cases hk; exact ⟨a2, b2⟩
  | 3, hk => cases hk; exact ⟨a3, b3⟩
  | 4, hk => cases hk; exact ⟨a4, b4⟩
  | 5, hk => cases hk; exact ⟨a5, b5⟩
  | k + 6, hk => simp [clT] at hk
theorem olK.narrow {A B : Nat → Prop} {tx : List Int32} {e0 sK sV mi : Nat} {s : State} (h : olK A tx e0 sK sV mi s) (hAB : ∀ q, B q → A q) : olK B tx e0 sK sV mi s :=
  ⟨h.1.narrow hAB, h.2.1.narrow hAB, h.2.2.1, h.2.2.2.1, h.2.2.2.2.1, h.2.2.2.2.2.1.narrow hAB, h.2.2.2.2.2.2.1.narrow hAB, h.2.2.2.2.2.2.2.narrow hAB⟩
theorem st_el : ∀ j : Nat, j < 78 → Cond.eq (.elem (.field (.string "HookUps$Reader" 58) "java/lang/String" "value" "[B") (.int (Int32.ofNat j))) (.int ((wch.map iz).getD j 0)) ∈ flatC (Jvm.Cond.and given_1 narrow_1) := by decide +kernel
theorem st_olk {a : Array Value} {s : State} (hts : ∀ w ∈ lw_tbl, w.before a s = true) (hgv : (Jvm.Cond.and given_1 narrow_1).before a s = true) : ∃ o : olP, tx9 o ∧ o.2.1 < s.heap.size ∧ olk (fun q => s.heap.size ≤ q) o s := by
  have hs := flat_of_before _ hgv
  have hA : ∀ q : Nat, q < s.heap.size → ¬ (fun q => s.heap.size ≤ q) q := fun q h => Nat.not_le.mpr h
  obtain ⟨t, ht, hT⟩ := va_Tof (args := a) (s := s) (tm := .static "java/util/ArrayList" "DEFAULTCAPACITY_EMPTY_ELEMENTDATA" "[Ljava/lang/Object;") (ty := .object "java/lang/Object") (N := 0) (f := fun _ => .null) (A := fun q => s.heap.size ≤ q) (by decide) (hs _ (by decide +kernel)) (va_eqt (hs (.eq (.length (.static "java/util/ArrayList" "DEFAULTCAPACITY_EMPTY_ELEMENTDATA" "[Ljava/lang/Object;")) (.int 0)) (by decide +kernel))) (fun j hj => absurd hj (Nat.not_lt_zero _)) hA
  obtain ⟨mi, hmi⟩ := va_Mi.of (args := a) (s := s) (C := "[Ljava/lang/Object;") (hs _ (by decide +kernel))
  obtain ⟨aK, aV, hS, hE⟩ := vk_Sof (args := a) (s := s) (N := 1) (tm := fun _ => .string "HookUps$Reader" 58) (len := [78]) (byt := [wch.map iz]) (A := fun q => s.heap.size ≤ q) (fun i hi => by obtain rfl : i = 0 := (by omega); decide) (fun i hi => hs _ (by decide +kernel)) (fun i hi => hs _ (by decide +kernel)) (fun i hi => hs _ (by decide +kernel)) (fun i hi => by obtain rfl : i = 0 := (by omega); exact hs _ (by decide +kernel)) (fun i hi j hj => by obtain rfl : i = 0 := (by omega); exact hs _ (st_el j hj)) (fun i j hi hj h => absurd h (by omega)) hA
  refine ⟨(wch.map iz, t, aK 0, aV 0, mi), rfl, ?_, ?_, hT, hmi, va_Dc.of (hts _ (lt_q7 124 (by decide +kernel))), vk_R.of (hts _ (lt_q3 206 (by decide +kernel))) (hE 0 (by decide)), ⟨fun i hi => ?_, fun i j hi hj _ => by omega⟩, va_Zof (hts _ (lt_q3 216 (by decide +kernel))) (hts _ (lt_q1 23 (by decide +kernel))) (va_eqt (hs _ (by decide +kernel))) hA, va_Zqof (hts _ (lt_q3 232 (by decide +kernel))) (hts _ (lt_q1 20 (by decide +kernel))) (hs _ (by decide +kernel)) hA⟩
  · have := hT.out
    show t < s.heap.size
    exact Nat.lt_of_not_le this
  · exact va_Zref (hts _ (lt_q1 54 (by decide +kernel))) (hts _ (lt_q1 5 (by decide +kernel))) ht hA
  · have e : i = 0 := by omega
    subst e
    exact hS.1 0 hi
