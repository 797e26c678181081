/-! the law's calls, one by one: what makes things -/
section OPS
variable {l : Launch} {D : va_G} {ar : Nat → ClassId} {B : Nat → Prop} {o : olP} {w : zcW} {n b : Nat} {σ : Nat → Nat → Int}
theorem lop_wire (ta : Int) (tz : Int) (mi : Int) (cr : Int) (r_ta : inI ta) (r_tz : inI tz) (r_mi : inI mi) (r_cr : inI cr) (hB : ∀ q, B q → b ≤ q) (hL : LS9 ar b o.2.1 σ w n) : op9 l D ar B b o yX11_wire cX11_wire 5 yX12_wire cX12_wire 6 .int [.int (iz ta), .int (iz tz), .int (iz mi), .int (iz cr)] σ w n := by
  obtain ⟨τ, w0, Ow, rfl, hC, hM, hT⟩ := hL
  have hc9 := hM.2.1.1
  refine oq_o (s_X11_wire l (σ 1) τ ta tz mi cr (hM.1 1) hC.1.1 hM.2.1.1 r_ta r_tz r_mi r_cr (hC.1.2.1 2 (by unfold isj9; decide)).1 (by have := hC.2.2.2.1; omega) hC.2.2.2.2 hB hC.2.2.1) (k_wire l σ ta tz mi cr hM.1 hM.2.1.1 r_ta r_tz r_mi r_cr) ⟨by decide, by decide, by decide, by decide, by decide, by decide⟩ (fun r' w' n' z => ?_)
  have mm := ms_wire ta tz mi cr r_ta r_tz r_mi r_cr hM
  rcases z with ⟨z1, z2, z3, z4⟩ | ⟨z1, z2, e9, N9, f9, m9, w9, hP, z3⟩
  · rw [if_neg z1] at mm
    refine ⟨by rw [z2]; rw [if_neg z1], ?_⟩
    rw [if_neg z1, z3, z4]
    exact ⟨τ, w0, Ow, rfl, hC, hM, hT⟩
  · rw [if_pos z1] at mm
    have z0 := z1.1
    refine ⟨by rw [z2]; rw [if_pos z1], ?_⟩
    rw [if_pos z1, z3]
    have hz : τ 2 2 = (((σ 1 1).toNat : Nat) : Int) := by rw [hC.1.1.l2.1]; omega
    refine ⟨_, w9, _, rfl, ci_add hC (by unfold isj9; decide) hz rfl rfl (by decide +kernel) hP (sA_ne _ _ (by decide)) (fun i hi => ?_) ?_, mm, mt_set hT hM ?_ (fun i hi => ?_)⟩
    · rw [sA_at]
      simp only [do_wire, ua]; (repeat' split) <;> first | rfl | (exfalso; omega)
    · rw [sA_at]
      exact rel_wire (σ 1 1).toNat ta tz mi cr hM.2.1.2.2.2.2.2.2.2.2.1 hM.2.1.1 hC.1.1 (by omega) (by omega) (by have := hC.2.2.2.1; omega) (hC.1.2.1 2 (by unfold isj9; decide)).1 hC.2.2.1 hP (lq_d hC.1.2.1 hC.1.2.1 (by unfold isj9; decide) (by unfold isj9; decide) (by decide) hP) (lq_d hC.1.2.1 hC.1.2.1 (by unfold isj9; decide) (by unfold isj9; decide) (by decide) hP) (lq_d hC.1.2.1 hC.1.2.1 (by unfold isj9; decide) (by unfold isj9; decide) (by decide) hP) (lq_d hC.1.2.1 hC.1.2.1 (by unfold isj9; decide) (by unfold isj9; decide) (by decide) hP)
    · simp only [do_wire, ua]; (repeat' split) <;> omega
    · simp only [do_wire, ua]; (repeat' split) <;> first | rfl | (exfalso; omega)
theorem lop_station (tw : Int) (zn : Int) (pw : Int) (r_tw : inI tw) (r_zn : inI zn) (r_pw : inI pw) (hB : ∀ q, B q → b ≤ q) (hL : LS9 ar b o.2.1 σ w n) : op9 l D ar B b o yX11_station cX11_station 4 yX12_station cX12_station 5 .int [.int (iz tw), .int (iz zn), .int (iz pw)] σ w n := by
  obtain ⟨τ, w0, Ow, rfl, hC, hM, hT⟩ := hL
  have hc9 := hM.2.1.1
  refine oq_o (s_X11_station l (σ 1) τ tw zn pw (hM.1 1) hC.1.1 hM.2.1.1 r_tw r_zn r_pw (hC.1.2.1 3 (by unfold isj9; decide)).1 (by have := hC.2.2.2.1; omega) hC.2.2.2.2 hB hC.2.2.1) (k_station l σ tw zn pw hM.1 hM.2.1.1 r_tw r_zn r_pw) ⟨by decide, by decide, by decide, by decide, by decide, by decide⟩ (fun r' w' n' z => ?_)
  have mm := ms_station tw zn pw r_tw r_zn r_pw hM
  rcases z with ⟨z1, z2, z3, z4⟩ | ⟨z1, z2, e9, N9, f9, m9, w9, hP, z3⟩
  · rw [if_neg z1] at mm
    refine ⟨by rw [z2]; rw [if_neg z1], ?_⟩
    rw [if_neg z1, z3, z4]
    exact ⟨τ, w0, Ow, rfl, hC, hM, hT⟩
  · rw [if_pos z1] at mm
    have z0 := z1.1
    refine ⟨by rw [z2]; rw [if_pos z1], ?_⟩
    rw [if_pos z1, z3]
    have hz : τ 3 2 = (((σ 1 2).toNat : Nat) : Int) := by rw [hC.1.1.l3.1]; omega
    refine ⟨_, w9, _, rfl, ci_add hC (by unfold isj9; decide) hz rfl rfl (by decide +kernel) hP (sA_ne _ _ (by decide)) (fun i hi => ?_) ?_, mm, mt_set hT hM ?_ (fun i hi => ?_)⟩
    · rw [sA_at]
      simp only [do_station, ua]; (repeat' split) <;> first | rfl | (exfalso; omega)
    · rw [sA_at]
      exact rel_station (σ 1 2).toNat tw zn pw hM.2.1.2.2.2.2.2.2.2.2.1 hM.2.1.1 hC.1.1 (by omega) (by omega) (by have := hC.2.2.2.1; omega) (hC.1.2.1 3 (by unfold isj9; decide)).1 hC.2.2.1 hP (lq_d hC.1.2.1 hC.1.2.1 (by unfold isj9; decide) (by unfold isj9; decide) (by decide) hP) (lq_d hC.1.2.1 hC.1.2.1 (by unfold isj9; decide) (by unfold isj9; decide) (by decide) hP) (lq_d hC.1.2.1 hC.1.2.1 (by unfold isj9; decide) (by unfold isj9; decide) (by decide) hP) (lq_d hC.1.2.1 hC.1.2.1 (by unfold isj9; decide) (by unfold isj9; decide) (by decide) hP)
    · simp only [do_station, ua]; (repeat' split) <;> omega
    · simp only [do_station, ua]; (repeat' split) <;> first | rfl | (exfalso; omega)
theorem lop_join (st : Int) (nw : Int) (fa : Int) (r_st : inI st) (r_nw : inI nw) (r_fa : inI fa) (hB : ∀ q, B q → b ≤ q) (hL : LS9 ar b o.2.1 σ w n) : op9 l D ar B b o yX11_join cX11_join 4 yX12_join cX12_join 5 .boolean [.int (iz st), .int (iz nw), .int (iz fa)] σ w n := by
  obtain ⟨τ, w0, Ow, rfl, hC, hM, hT⟩ := hL
  have hc9 := hM.2.1.1
  refine oq_o (s_X11_join l (σ 1) τ st nw fa (hM.1 1) hC.1.1 hM.2.1.1 r_st r_nw r_fa (hC.1.2.1 6 (by unfold isj9; decide)).1 (by have := hC.2.2.2.1; omega) hC.2.2.2.2 hB hC.2.2.1) (k_join l σ st nw fa hM.1 hM.2.1.1 r_st r_nw r_fa) ⟨by decide, by decide, by decide, by decide, by decide, by decide⟩ (fun r' w' n' z => ?_)
  have mm := ms_join st nw fa r_st r_nw r_fa hM
  rcases z with ⟨z1, z2, z3, z4⟩ | ⟨z1, z2, e9, N9, f9, m9, w9, hP, z3⟩
  · rw [if_neg z1] at mm
    refine ⟨by rw [z2]; rw [decide_eq_false z1]; rfl, ?_⟩
    rw [if_neg z1, z3, z4]
    exact ⟨τ, w0, Ow, rfl, hC, hM, hT⟩
  · rw [if_pos z1] at mm
    have z0 := z1.1
    refine ⟨by rw [z2]; rw [decide_eq_true z1]; rfl, ?_⟩
    rw [if_pos z1, z3]
    have hz : τ 6 2 = (((σ 1 3).toNat : Nat) : Int) := by rw [hC.1.1.l6.1]; omega
    refine ⟨_, w9, _, rfl, ci_add hC (by unfold isj9; decide) hz rfl rfl (by decide +kernel) hP (sA_ne _ _ (by decide)) (fun i hi => ?_) ?_, mm, mt_set hT hM ?_ (fun i hi => ?_)⟩
    · rw [sA_at]
      simp only [do_join, ua]; (repeat' split) <;> first | rfl | (exfalso; omega)
    · rw [sA_at]
      exact rel_join (σ 1 3).toNat st nw fa hM.2.1.2.2.2.2.2.2.2.2.1 hM.2.1.1 hC.1.1 (by omega) (by omega) (by have := hC.2.2.2.1; omega) (hC.1.2.1 6 (by unfold isj9; decide)).1 hC.2.2.1 hP (lq_d hC.1.2.1 hC.1.2.1 (by unfold isj9; decide) (by unfold isj9; decide) (by decide) hP) (lq_d hC.1.2.1 hC.1.2.1 (by unfold isj9; decide) (by unfold isj9; decide) (by decide) hP) (lq_d hC.1.2.1 hC.1.2.1 (by unfold isj9; decide) (by unfold isj9; decide) (by decide) hP) (lq_d hC.1.2.1 hC.1.2.1 (by unfold isj9; decide) (by unfold isj9; decide) (by decide) hP)
    · simp only [do_join, ua]; (repeat' split) <;> omega
    · simp only [do_join, ua]; (repeat' split) <;> first | rfl | (exfalso; omega)
theorem lop_hour (nw : Int) (dy : Int) (sl : Int) (ln : Int) (tw : Int) (so : Int) (ss : Int) (r_nw : inI nw) (r_dy : inI dy) (r_sl : inI sl) (r_ln : inI ln) (r_tw : inI tw) (r_so : inI so) (r_ss : inI ss) (hB : ∀ q, B q → b ≤ q) (hL : LS9 ar b o.2.1 σ w n) : op9 l D ar B b o yX11_hour cX11_hour 8 yX12_hour cX12_hour 9 .int [.int (iz nw), .int (iz dy), .int (iz sl), .int (iz ln), .int (iz tw), .int (iz so), .int (iz ss)] σ w n := by
  obtain ⟨τ, w0, Ow, rfl, hC, hM, hT⟩ := hL
  have hc9 := hM.2.1.1
  refine oq_o (s_X11_hour l (σ 1) τ nw dy sl ln tw so ss (hM.1 1) hC.1.1 hM.2.1.1 r_nw r_dy r_sl r_ln r_tw r_so r_ss (hC.1.2.1 7 (by unfold isj9; decide)).1 (by have := hC.2.2.2.1; omega) hC.2.2.2.2 hB hC.2.2.1) (k_hour l σ nw dy sl ln tw so ss hM.1 hM.2.1.1 r_nw r_dy r_sl r_ln r_tw r_so r_ss) ⟨by decide, by decide, by decide, by decide, by decide, by decide⟩ (fun r' w' n' z => ?_)
  have mm := ms_hour nw dy sl ln tw so ss r_nw r_dy r_sl r_ln r_tw r_so r_ss hM
  rcases z with ⟨z1, z2, z3, z4⟩ | ⟨z1, z2, e9, N9, f9, m9, w9, hP, z3⟩
  · rw [if_neg z1] at mm
    refine ⟨by rw [z2]; rw [if_neg z1], ?_⟩
    rw [if_neg z1, z3, z4]
    exact ⟨τ, w0, Ow, rfl, hC, hM, hT⟩
  · rw [if_pos z1] at mm
    have z0 := z1.1
    refine ⟨by rw [z2]; rw [if_pos z1], ?_⟩
    rw [if_pos z1, z3]
    have hz : τ 7 2 = (((σ 1 4).toNat : Nat) : Int) := by rw [hC.1.1.l7.1]; omega
    refine ⟨_, w9, _, rfl, ci_add hC (by unfold isj9; decide) hz rfl rfl (by decide +kernel) hP (sA_ne _ _ (by decide)) (fun i hi => ?_) ?_, mm, mt_set hT hM ?_ (fun i hi => ?_)⟩
    · rw [sA_at]
      simp only [do_hour, ua]; (repeat' split) <;> first | rfl | (exfalso; omega)
    · rw [sA_at]
      exact rel_hour (σ 1 4).toNat nw dy sl ln tw so ss hM.2.1.2.2.2.2.2.2.2.2.1 hM.2.1.1 hC.1.1 (by omega) (by omega) (by have := hC.2.2.2.1; omega) (hC.1.2.1 7 (by unfold isj9; decide)).1 hC.2.2.1 hP (lq_d hC.1.2.1 hC.1.2.1 (by unfold isj9; decide) (by unfold isj9; decide) (by decide) hP) (lq_d hC.1.2.1 hC.1.2.1 (by unfold isj9; decide) (by unfold isj9; decide) (by decide) hP) (lq_d hC.1.2.1 hC.1.2.1 (by unfold isj9; decide) (by unfold isj9; decide) (by decide) hP) (lq_d hC.1.2.1 hC.1.2.1 (by unfold isj9; decide) (by unfold isj9; decide) (by decide) hP)
    · simp only [do_hour, ua]; (repeat' split) <;> omega
    · simp only [do_hour, ua]; (repeat' split) <;> first | rfl | (exfalso; omega)
theorem lop_cut (st : Int) (dy : Int) (fa : Int) (td : Int) (rk : Int) (r_st : inI st) (r_dy : inI dy) (r_fa : inI fa) (r_td : inI td) (r_rk : inI rk) (hB : ∀ q, B q → b ≤ q) (hL : LS9 ar b o.2.1 σ w n) : op9 l D ar B b o yX11_cut cX11_cut 7 yX12_cut cX12_cut 7 .int [.int (iz st), .int (iz dy), .int (iz fa), .int (iz td), .int (iz rk)] σ w n := by
  obtain ⟨τ, w0, Ow, rfl, hC, hM, hT⟩ := hL
  have hc9 := hM.2.1.1
  refine oq_o (s_X11_cut l (σ 1) τ st dy fa td rk (hM.1 1) hC.1.1 hM.2.1.1 r_st r_dy r_fa r_td r_rk (hC.1.2.1 8 (by unfold isj9; decide)).1 (by have := hC.2.2.2.1; omega) hC.2.2.2.2 hB hC.2.2.1) (k_cut l σ st dy fa td rk hM.1 hM.2.1.1 r_st r_dy r_fa r_td r_rk) ⟨by decide, by decide, by decide, by decide, by decide, by decide⟩ (fun r' w' n' z => ?_)
  have mm := ms_cut st dy fa td rk r_st r_dy r_fa r_td r_rk hM
  rcases z with ⟨z1, z2, z3, z4⟩ | ⟨z1, z2, e9, N9, f9, m9, w9, hP, z3⟩
  · rw [if_neg z1] at mm
    refine ⟨by rw [z2]; rw [if_neg z1], ?_⟩
    rw [if_neg z1, z3, z4]
    exact ⟨τ, w0, Ow, rfl, hC, hM, hT⟩
  · rw [if_pos z1] at mm
    have z0 := z1.1
    refine ⟨by rw [z2]; rw [if_pos z1], ?_⟩
    rw [if_pos z1, z3]
    have hz : τ 8 2 = (((σ 1 5).toNat : Nat) : Int) := by rw [hC.1.1.l8.1]; omega
    refine ⟨_, w9, _, rfl, ci_add hC (by unfold isj9; decide) hz rfl rfl (by decide +kernel) hP (sA_ne _ _ (by decide)) (fun i hi => ?_) ?_, mm, mt_set hT hM ?_ (fun i hi => ?_)⟩
    · rw [sA_at]
      simp only [do_cut, ua]; (repeat' split) <;> first | rfl | (exfalso; omega)
    · rw [sA_at]
      exact rel_cut (σ 1 5).toNat st dy fa td rk hM.2.1.2.2.2.2.2.2.2.2.1 hM.2.1.1 hC.1.1 (by omega) (by omega) (by have := hC.2.2.2.1; omega) (hC.1.2.1 8 (by unfold isj9; decide)).1 hC.2.2.1 hP (lq_d hC.1.2.1 hC.1.2.1 (by unfold isj9; decide) (by unfold isj9; decide) (by decide) hP) (lq_d hC.1.2.1 hC.1.2.1 (by unfold isj9; decide) (by unfold isj9; decide) (by decide) hP) (lq_d hC.1.2.1 hC.1.2.1 (by unfold isj9; decide) (by unfold isj9; decide) (by decide) hP) (lq_d hC.1.2.1 hC.1.2.1 (by unfold isj9; decide) (by unfold isj9; decide) (by decide) hP)
    · simp only [do_cut, ua]; (repeat' split) <;> omega
    · simp only [do_cut, ua]; (repeat' split) <;> first | rfl | (exfalso; omega)
theorem lop_contract (nw : Int) (r_nw : inI nw) (htx : tx9 o) (hL : LS9 ar b o.2.1 σ w n) : op9 l D ar B b o yX11_contract cX11_contract 3 yX12_contract cX12_contract 3 .int [.int (iz nw)] σ w n := by
  obtain ⟨τ, w0, Ow, rfl, hC, hM, hT⟩ := hL
  have hc9 := hM.2.1.1
  have h10 : 0 ≤ σ 1 10 ∧ σ 1 10 ≤ 500 := by omega
  refine oq_o (s_X11_contract0 l (σ 1) (σ 1 10).toNat τ nw ?_ (by omega) (tpr_tb h10 hT.1 hC.1.1) htx (by have := hC.2.2.2.1; omega) r_nw) (k_contract l σ nw hM.1 hM.2.1.1 r_nw) ⟨by decide, by decide, by decide, by decide, by decide, by decide⟩ (fun r' w' n' z => ?_)
  · rw [hC.1.1.i.2.2.2.2.1]; omega
  · obtain ⟨z1, z2, z3, τ9, w9, Ow9, z4, z5⟩ := ci_contract hM hC hT.1 z
    exact ⟨z1, τ9, w9, Ow9, z4, z5, z3, mt_ct hT hM⟩
theorem lop_image (k : Int) (r_k : inI k) (hB : ∀ q, B q → b ≤ q) (hL : LS9 ar b o.2.1 σ w n) : op9 l D ar B b o yX11_image cX11_image 4 yX12_image cX12_image 3 .boolean [.int (iz k)] σ w n := by
  obtain ⟨τ, w0, Ow, rfl, hC, hM, hT⟩ := hL
  refine oq_o (s_X11_image l σ τ k Ow hM hC hB r_k) (k_image l σ k hM.1 hM.2.1.1 r_k) ⟨by decide, by decide, by decide, by decide, by decide, by decide⟩ (fun r' w' n' z => ?_)
  obtain ⟨z1, z2, τ9, w9, Ow9, z3, z4⟩ := z
  refine ⟨z1, τ9, w9, Ow9, z3, z4, ?_, ?_⟩
  · by_cases ok : 0 ≤ k ∧ k ≤ 2
    · rw [if_pos ok]; exact ms_image (by omega) hM
    · rw [if_neg ok]; exact hM
  · by_cases ok : 0 ≤ k ∧ k ≤ 2
    · rw [if_pos ok]; exact mt_image (by omega) hT hM
    · rw [if_neg ok]; exact hT
theorem lop_again (k : Int) (r_k : inI k) (hB : ∀ q, B q → b ≤ q) (hL : LS9 ar b o.2.1 σ w n) : op9 l D ar B b o yX11_again cX11_again 2 yX12_again cX12_again 3 .boolean [.int (iz k)] σ w n := by
  obtain ⟨τ, w0, Ow, rfl, hC, hM, hT⟩ := hL
  refine oq_o (s_X11_again l σ τ k Ow hM hC hB r_k) (k_again l σ k hM.1 hM.2.1.1 r_k) ⟨by decide, by decide, by decide, by decide, by decide, by decide⟩ (fun r' w' n' z => ?_)
  obtain ⟨z1, z2, τ9, w9, Ow9, z3, z4⟩ := z
  refine ⟨z1, τ9, w9, Ow9, z3, z4, ?_, ?_⟩
  · by_cases ok : (0 ≤ k ∧ k ≤ 2) ∧ ¬ σ 2 k.toNat = 0
    · rw [if_pos ok]; exact ms_again (by omega) ok.2 hM
    · rw [if_neg ok]; exact hM
  · by_cases ok : (0 ≤ k ∧ k ≤ 2) ∧ ¬ σ 2 k.toNat = 0
    · rw [if_pos ok]; exact mt_again (by omega) ok.2 hT hM
    · rw [if_neg ok]; exact hT
end OPS
