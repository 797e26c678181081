/-! every teller of the reference keeps what is always so -/
theorem ms_town {σ : Nat → Nat → Int} (h : Ms9 σ) : Ms9 (if σ 1 0 = 8 then σ else u2 σ 1 0 (σ 1 0 + 1)) := by
  have hc := h.2.1.1
  by_cases ok : σ 1 0 = 8
  · rw [if_pos ok]; exact h
  · rw [if_neg ok, u2_sA]
    exact ms_set h (iv_town h.2.1 ok) (fun i hi => ua_ne _ _ (by omega)) (in_ua (h.1 1) (by omega))
theorem ms_wire {σ : Nat → Nat → Int} (a : Int) (b : Int) (mi : Int) (cr : Int) (r_a : inI a) (r_b : inI b) (r_mi : inI mi) (r_cr : inI cr) (h : Ms9 σ) : Ms9 (if ok_wire (σ 1) a b mi cr then sA σ 1 (do_wire (σ 1) a b mi cr) else σ) := by
  have hc := h.2.1.1
  by_cases ok : ok_wire (σ 1) a b mi cr
  · rw [if_pos ok]
    refine ms_set h (iv_wire a b mi cr (σ 1 1).toNat (by omega) h.2.1 ok) (fun i hi => by simp only [do_wire, ua]; (repeat' split) <;> first | rfl | (exfalso; omega)) (by unfold do_wire; repeat (first | exact h.1 1 | refine in_ua ?_ (by first | omega | exact h.1 1 8)))
  · rw [if_neg ok]; exact h
theorem ms_station {σ : Nat → Nat → Int} (tw : Int) (zn : Int) (pw : Int) (r_tw : inI tw) (r_zn : inI zn) (r_pw : inI pw) (h : Ms9 σ) : Ms9 (if ok_station (σ 1) tw zn pw then sA σ 1 (do_station (σ 1) tw zn pw) else σ) := by
  have hc := h.2.1.1
  by_cases ok : ok_station (σ 1) tw zn pw
  · rw [if_pos ok]
    refine ms_set h (iv_station tw zn pw (σ 1 2).toNat (by omega) h.2.1 ok) (fun i hi => by simp only [do_station, ua]; (repeat' split) <;> first | rfl | (exfalso; omega)) (by unfold do_station; repeat (first | exact h.1 1 | refine in_ua ?_ (by first | omega | exact h.1 1 8)))
  · rw [if_neg ok]; exact h
theorem ms_join {σ : Nat → Nat → Int} (s9 : Int) (nw : Int) (fd : Int) (r_s9 : inI s9) (r_nw : inI nw) (r_fd : inI fd) (h : Ms9 σ) : Ms9 (if ok_join (σ 1) s9 nw fd then sA σ 1 (do_join (σ 1) s9 nw fd) else σ) := by
  have hc := h.2.1.1
  by_cases ok : ok_join (σ 1) s9 nw fd
  · rw [if_pos ok]
    refine ms_set h (iv_join s9 nw fd (σ 1 3).toNat (by omega) h.2.1 ok) (fun i hi => by simp only [do_join, ua]; (repeat' split) <;> first | rfl | (exfalso; omega)) (by unfold do_join; repeat (first | exact h.1 1 | refine in_ua ?_ (by first | omega | exact h.1 1 8)))
  · rw [if_neg ok]; exact h
theorem ms_hour {σ : Nat → Nat → Int} (nw : Int) (dy : Int) (sl : Int) (ln : Int) (tw : Int) (so : Int) (ss : Int) (r_nw : inI nw) (r_dy : inI dy) (r_sl : inI sl) (r_ln : inI ln) (r_tw : inI tw) (r_so : inI so) (r_ss : inI ss) (h : Ms9 σ) : Ms9 (if ok_hour (σ 1) nw dy sl ln tw so ss then sA σ 1 (do_hour (σ 1) nw dy sl ln tw so ss) else σ) := by
  have hc := h.2.1.1
  by_cases ok : ok_hour (σ 1) nw dy sl ln tw so ss
  · rw [if_pos ok]
    refine ms_set h (iv_hour nw dy sl ln tw so ss (σ 1 4).toNat (by omega) h.2.1 ok) (fun i hi => by simp only [do_hour, ua]; (repeat' split) <;> first | rfl | (exfalso; omega)) (by unfold do_hour; repeat (first | exact h.1 1 | refine in_ua ?_ (by first | omega | exact h.1 1 8)))
  · rw [if_neg ok]; exact h
theorem ms_cut {σ : Nat → Nat → Int} (s9 : Int) (dy : Int) (fd : Int) (td : Int) (rk : Int) (r_s9 : inI s9) (r_dy : inI dy) (r_fd : inI fd) (r_td : inI td) (r_rk : inI rk) (h : Ms9 σ) : Ms9 (if ok_cut (σ 1) s9 dy fd td rk then sA σ 1 (do_cut (σ 1) s9 dy fd td rk) else σ) := by
  have hc := h.2.1.1
  by_cases ok : ok_cut (σ 1) s9 dy fd td rk
  · rw [if_pos ok]
    refine ms_set h (iv_cut s9 dy fd td rk (σ 1 5).toNat (by omega) h.2.1 ok) (fun i hi => by simp only [do_cut, ua]; (repeat' split) <;> first | rfl | (exfalso; omega)) (by unfold do_cut; repeat (first | exact h.1 1 | refine in_ua ?_ (by first | omega | exact h.1 1 8)))
  · rw [if_neg ok]; exact h
theorem ms_calls {σ : Nat → Nat → Int} (s9 : Int) (ca : Int) (he : Int) (r_s9 : inI s9) (r_ca : inI ca) (r_he : inI he) (h : Ms9 σ) : Ms9 (if ok_calls (σ 1) s9 ca he then sA σ 1 (do_calls (σ 1) s9 ca he) else σ) := by
  have hc := h.2.1.1
  by_cases ok : ok_calls (σ 1) s9 ca he
  · rw [if_pos ok]
    refine ms_set h (iv_calls s9 ca he (σ 1 6).toNat (by omega) h.2.1 ok) (fun i hi => by simp only [do_calls, ua]; (repeat' split) <;> first | rfl | (exfalso; omega)) (by unfold do_calls; repeat (first | exact h.1 1 | refine in_ua ?_ (by first | omega | exact h.1 1 8)))
  · rw [if_neg ok]; exact h
theorem ms_summer {σ : Nat → Nat → Int} (zone : Int) (fr : Int) (to : Int) (r_zone : inI zone) (r_fr : inI fr) (r_to : inI to) (h : Ms9 σ) : Ms9 (if ok_summer zone fr to then sA σ 1 (do_summer (σ 1) zone fr to) else σ) := by
  have hc := h.2.1.1
  by_cases ok : ok_summer zone fr to
  · rw [if_pos ok]
    refine ms_set h (iv_summer fr to zone.toNat h.2.1 (by omega)) (fun i hi => by simp only [do_summer, ua]; (repeat' split) <;> first | rfl | (exfalso; omega)) (by unfold do_summer; repeat (first | exact h.1 1 | refine in_ua ?_ (by first | omega | exact h.1 1 8)))
  · rw [if_neg ok]; exact h
theorem ms_day {σ : Nat → Nat → Int} (d : Int) (r_d : inI d) (h : Ms9 σ) : Ms9 (if (σ 1 8 ≤ d ∧ d ≤ 199) then sA σ 1 (ua (σ 1) 8 d) else σ) := by
  have hc := h.2.1.1
  by_cases ok : (σ 1 8 ≤ d ∧ d ≤ 199)
  · rw [if_pos ok]
    refine ms_set h (iv_day d h.2.1 ok) (fun i hi => by simp only [ua]; (repeat' split) <;> first | rfl | (exfalso; omega)) (by repeat (first | exact h.1 1 | refine in_ua ?_ (by first | omega | exact h.1 1 8)))
  · rw [if_neg ok]; exact h
theorem ms_view {σ : Nat → Nat → Int} (d : Int) (r_d : inI d) (h : Ms9 σ) : Ms9 (if (d = -1 ∨ (0 ≤ d ∧ d ≤ σ 1 8)) then sA σ 1 (ua (σ 1) 9 d) else σ) := by
  have hc := h.2.1.1
  by_cases ok : (d = -1 ∨ (0 ≤ d ∧ d ≤ σ 1 8))
  · rw [if_pos ok]
    refine ms_set h (iv_view d h.2.1 ok) (fun i hi => by simp only [ua]; (repeat' split) <;> first | rfl | (exfalso; omega)) (by repeat (first | exact h.1 1 | refine in_ua ?_ (by first | omega | exact h.1 1 8)))
  · rw [if_neg ok]; exact h
theorem ms_hands {σ : Nat → Nat → Int} (h9 : Int) (r_h9 : inI h9) (h : Ms9 σ) : Ms9 (if (1 ≤ h9 ∧ h9 ≤ 3) then sA σ 1 (ua (σ 1) 13 h9) else σ) := by
  have hc := h.2.1.1
  by_cases ok : (1 ≤ h9 ∧ h9 ≤ 3)
  · rw [if_pos ok]
    refine ms_set h (iv_hands h9 h.2.1 ok) (fun i hi => by simp only [ua]; (repeat' split) <;> first | rfl | (exfalso; omega)) (by repeat (first | exact h.1 1 | refine in_ua ?_ (by first | omega | exact h.1 1 8)))
  · rw [if_neg ok]; exact h
theorem ms_end {σ : Nat → Nat → Int} (n9 : Int) (r_n9 : inI n9) (h : Ms9 σ) : Ms9 (if (0 ≤ n9 ∧ n9 ≤ σ 1 10) then sA σ 1 (ua (σ 1) 10 n9) else σ) := by
  have hc := h.2.1.1
  by_cases ok : (0 ≤ n9 ∧ n9 ≤ σ 1 10)
  · rw [if_pos ok]
    refine ms_set h (iv_end n9 h.2.1 ok) (fun i hi => by simp only [ua]; (repeat' split) <;> first | rfl | (exfalso; omega)) (by repeat (first | exact h.1 1 | refine in_ua ?_ (by first | omega | exact h.1 1 8)))
  · rw [if_neg ok]; exact h
theorem ms_own {σ : Nat → Nat → Int} (s9 : Int) (bits : Int) (r_s9 : inI s9) (r_bits : inI bits) (h : Ms9 σ) : Ms9 (if ((0 ≤ s9 ∧ s9 ≤ σ 1 2 - 1) ∧ (0 ≤ bits ∧ bits ≤ 255)) then sA σ 1 (ua (σ 1) (80 + 4 * s9.toNat + 3) bits) else σ) := by
  have hc := h.2.1.1
  by_cases ok : ((0 ≤ s9 ∧ s9 ≤ σ 1 2 - 1) ∧ (0 ≤ bits ∧ bits ≤ 255))
  · rw [if_pos ok]
    refine ms_set h (iv_own bits s9.toNat h.2.1 (by omega)) (fun i hi => by simp only [ua]; (repeat' split) <;> first | rfl | (exfalso; omega)) (by repeat (first | exact h.1 1 | refine in_ua ?_ (by first | omega | exact h.1 1 8)))
  · rw [if_neg ok]; exact h
theorem ms_piece {σ : Nat → Nat → Int} (so : Int) (h : Ms9 σ) : Ms9 (if (¬ σ 1 7 = 6 ∧ (0 ≤ so ∧ so ≤ 7)) then sA σ 1 (do_piece (σ 1) so) else σ) := by
  have hc := h.2.1.1
  by_cases ok : ¬ σ 1 7 = 6 ∧ (0 ≤ so ∧ so ≤ 7)
  · rw [if_pos ok]
    have v := pz_v (σ 1) (750 + 7 * (σ 1 7).toNat) so 6
    have pin : ∀ t i, inI (pz (σ 1) (750 + 7 * (σ 1 7).toNat) so t i) := by
      intro t
      induction t with
      | zero => exact in_ua (h.1 1) (by omega)
      | succ t ih => exact in_ua ih (by omega)
    refine ms_set h (iv_piece so (σ 1 7).toNat (by omega) h.2.1 ok) (fun i hi => ?_) (in_ua (pin 6) (by omega))
    unfold do_piece
    rw [ua_ne _ _ (by omega)]
    exact v.2.2 i (by omega)
  · rw [if_neg ok]; exact h
theorem ms_feed {σ : Nat → Nat → Int} (a b c9 d e9 : Int) (h : Ms9 σ) : Ms9 (if 500 < σ 1 10 + 20 then σ else sA σ 1 (fd (σ 1) a b c9 d e9 20)) := by
  have hc := h.2.1.1
  by_cases ok : 500 < σ 1 10 + 20
  · rw [if_pos ok]; exact h
  · rw [if_neg ok]
    have g : ∀ m : Nat, m ≤ 20 → (fd (σ 1) a b c9 d e9 m) 10 = σ 1 10 + (m : Int) ∧ (∀ i, 2260 ≤ i → fd (σ 1) a b c9 d e9 m i = σ 1 i) ∧ ∀ i, inI (fd (σ 1) a b c9 d e9 m i) := by
      intro m
      induction m with
      | zero => intro _; exact ⟨by show σ 1 10 = σ 1 10 + 0; omega, fun _ _ => rfl, h.1 1⟩
      | succ m ih =>
        intro hm
        obtain ⟨g1, g2, g3⟩ := ih (by omega)
        unfold fd
        refine ⟨by rw [ua_at, g1]; omega, fun i hi => ?_, in_ua (in_ua g3 (by omega)) (by omega)⟩
        rw [ua_ne _ _ (by omega), ua_ne _ _ (by omega)]
        exact g2 i hi
    exact ms_set h (iv_feed a b c9 d e9 h.2.1 ok) (g 20 (by omega)).2.1 (g 20 (by omega)).2.2

