theorem whole_start {p : Program} {e : Env} {s : State} {m : MethodId} {below : List Frame} {meth : Method} {c : Code} (l : Launch) {b L : Nat} {xs : Nat → Int32} (hL : L ≤ 4096) (C0 : lw_At p s m meth c b L xs) : W p l e room_1 s m #[Value.ref b] below meth c s.heap [] 0 0 (lw_Z below #[Value.ref b] s) (entryFrame m ([Value.ref b] : List Value).toArray 4) := by
  obtain ⟨hx, hb, hr, hml, hown, hts, hX, hbl, hlocks, hgv⟩ := C0
  obtain ⟨D, ar, K⟩ := st_clK hts
  obtain ⟨o, htx, he, O⟩ := st_olk hts hgv
  have C : CallFix p m c code 4 s #[Value.ref b] hk_tb RL := ⟨hx, hb, hml, hown, fun w hw => hts w (List.mem_filter.mp hw).1⟩
  have E : lwX p m c s #[Value.ref b] D ar s.heap.size o b L xs := ⟨C, K, olK.narrow O (fun q h => h.1), htx, hX, hbl, rfl, hL⟩
  have hl := lv_entry ([.ref b]) (n := 4) (Nat.le_of_ble_eq_true rfl)
  rw [lg_entry_eq]
  exact lw_first E O he hr hlocks s.heap [] _ ⟨fun a x h => (by cases h), rfl, ⟨fun a x h => (by cases h), fun q h => h⟩, fun _ _ => rfl⟩ (fun x hx => absurd hx List.not_mem_nil) hl
