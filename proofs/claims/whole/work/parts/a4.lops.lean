/-! the law's calls, one by one: what makes nothing -/
theorem sb_r (x : Int) : -128 ≤ sb9 x ∧ sb9 x ≤ 127 := by
  rw [← sb_mod]
  have := sb_v (x := x % 2 ^ 8) (by omega)
  omega
theorem pt_r {T : Nat → Int} (h : ∀ i, i < 500 → -128 ≤ T i ∧ T i ≤ 127) (L : Nat) (v : Int) : ∀ (j i : Nat), i < 500 → -128 ≤ pt9 T L v j i ∧ pt9 T L v j i ≤ 127
  | 0, i, hi => h i hi
  | j + 1, i, hi => by
    unfold pt9
    by_cases c : i = L + j
    · rw [c, ua_at]; exact sb_r _
    · rw [ua_ne _ _ c]; exact pt_r h L v j i hi
section OPS
variable {l : Launch} {D : va_G} {ar : Nat → ClassId} {B : Nat → Prop} {o : olP} {w : zcW} {n b : Nat} {σ : Nat → Nat → Int}
theorem lop_local (zone : Int) (day : Int) (slot : Int) (r_zone : inI zone) (r_day : inI day) (r_slot : inI slot) (hL : LS9 ar b o.2.1 σ w n) : op9 l D ar B b o yX11_local cX11_local 4 yX12_local cX12_local 4 .int [.int (iz zone), .int (iz day), .int (iz slot)] σ w n := by
  obtain ⟨τ, w0, Ow, rfl, hC, hM, hT⟩ := hL
  exact oq_t (k_X11_local l (σ 1) τ zone day slot (hM.1 1) hC.1.1 r_zone r_day r_slot) (k_local l σ zone day slot hM.1 hM.2.1.1 r_zone r_day r_slot) ⟨by decide, by decide, by decide, by decide⟩ hC hM hT
theorem lop_twice (zone : Int) (day : Int) (slot : Int) (r_zone : inI zone) (r_day : inI day) (r_slot : inI slot) (hL : LS9 ar b o.2.1 σ w n) : op9 l D ar B b o yX11_twice cX11_twice 8 yX12_twice cX12_twice 6 .int [.int (iz zone), .int (iz day), .int (iz slot)] σ w n := by
  obtain ⟨τ, w0, Ow, rfl, hC, hM, hT⟩ := hL
  exact oq_t (k_X11_twice l (σ 1) τ zone day slot (hM.1 1) hC.1.1 r_zone r_day r_slot) (k_twice l σ zone day slot hM.1 hM.2.1.1 r_zone r_day r_slot) ⟨by decide, by decide, by decide, by decide⟩ hC hM hT
theorem lop_member (st : Int) (d : Int) (r_st : inI st) (r_d : inI d) (hL : LS9 ar b o.2.1 σ w n) : op9 l D ar B b o yX11_member cX11_member 3 yX12_member cX12_member 3 .int [.int (iz st), .int (iz d)] σ w n := by
  obtain ⟨τ, w0, Ow, rfl, hC, hM, hT⟩ := hL
  exact oq_t (k_X11_member l (σ 1) τ st d (hM.1 1) hC.1.1 hM.2.1.2.2.2.1 hM.2.1.1 r_st r_d) (k_member l σ st d hM.1 hM.2.1.1 r_st r_d) ⟨by decide, by decide, by decide, by decide⟩ hC hM hT
theorem lop_about (h : Int) (what : Int) (r_h : inI h) (r_what : inI what) (hL : LS9 ar b o.2.1 σ w n) : op9 l D ar B b o yX11_about cX11_about 4 yX12_about cX12_about 3 .int [.int (iz h), .int (iz what)] σ w n := by
  obtain ⟨τ, w0, Ow, rfl, hC, hM, hT⟩ := hL
  exact oq_t (k_X11_about l (σ 1) τ h what (hM.1 1) hC.1.1 hM.2.1.2.2.2.2.1 hM.2.1.1 r_h r_what) (k_about l σ h what hM.1 hM.2.1.1 r_h r_what) ⟨by decide, by decide, by decide, by decide⟩ hC hM hT
theorem lop_fault (what : Int) (r_what : inI what) (hL : LS9 ar b o.2.1 σ w n) : op9 l D ar B b o yX11_fault cX11_fault 2 yX12_fault cX12_fault 2 .int [.int (iz what)] σ w n := by
  obtain ⟨τ, w0, Ow, rfl, hC, hM, hT⟩ := hL
  exact oq_t (k_X11_fault l (σ 1) τ what (hM.1 1) hC.1.1 r_what) (k_fault l σ what hM.1 r_what) ⟨by decide, by decide, by decide, by decide⟩ hC hM hT
theorem lop_lost (st : Int) (k : Int) (r_st : inI st) (r_k : inI k) (hL : LS9 ar b o.2.1 σ w n) : op9 l D ar B b o yX11_lost cX11_lost 6 yX12_lost cX12_lost 5 .int [.int (iz st), .int (iz k)] σ w n := by
  obtain ⟨τ, w0, Ow, rfl, hC, hM, hT⟩ := hL
  exact oq_t (k_X11_lost l (σ 1) τ st k (hM.1 1) hC.1.1 hM.2.1.2.2.1 hM.2.1.2.2.2.2.1 hM.2.1.2.2.2.2.2.2.2.2.1 hM.2.1.2.2.2.2.2.2.2.2.2 hM.2.1.1 hM.2.1.2.2.2.1 hM.2.1.2.2.2.2.2.1 r_st r_k) (k_lost l σ st k hM.1 hM.2.1.1 hM.2.1.2.2.1 hM.2.1.2.2.2.2.1 hM.2.1.2.2.2.2.2.2.2.2.1 r_st r_k) ⟨by decide, by decide, by decide, by decide⟩ hC hM hT
theorem lop_call (k : Int) (what : Int) (r_k : inI k) (r_what : inI what) (hL : LS9 ar b o.2.1 σ w n) : op9 l D ar B b o yX11_call cX11_call 3 yX12_call cX12_call 4 .int [.int (iz k), .int (iz what)] σ w n := by
  obtain ⟨τ, w0, Ow, rfl, hC, hM, hT⟩ := hL
  exact oq_t (k_X11_call l (σ 1) τ k what (hM.1 1) hC.1.1 hM.2.1.2.2.2.2.2.2.1 hM.2.1.1 r_k r_what) (k_call l σ k what hM.1 hM.2.1.1 hM.2.1.2.2.2.2.2.2.1 r_k r_what) ⟨by decide, by decide, by decide, by decide⟩ hC hM hT
theorem lop_apart (a : Int) (a9 : Int) (r_a : inI a) (r_a9 : inI a9) (hL : LS9 ar b o.2.1 σ w n) : op9 l D ar B b o yX11_apart cX11_apart 13 yX12_apart cX12_apart 13 .boolean [.int (iz a), .int (iz a9)] σ w n := by
  obtain ⟨τ, w0, Ow, rfl, hC, hM, hT⟩ := hL
  exact oq_t (k_X11_apart l (σ 1) τ a a9 (hM.1 1) hC.1.1 hM.2.1.1 hM.2.1.2.2.2.2.2.2.1 r_a r_a9) (k_apart l σ a a9 hM.1 hM.2.1.1 hM.2.1.2.2.2.2.2.2.1 r_a r_a9) ⟨by decide, by decide, by decide, by decide⟩ hC hM hT
theorem lop_count (what : Int) (r_what : inI what) (hL : LS9 ar b o.2.1 σ w n) : op9 l D ar B b o yX11_count cX11_count 2 yX12_count cX12_count 2 .int [.int (iz what)] σ w n := by
  obtain ⟨τ, w0, Ow, rfl, hC, hM, hT⟩ := hL
  exact oq_t (k_X11_count l (σ 1) τ what (hM.1 1) hC.1.1 r_what) (k_count l σ what hM.1 r_what) ⟨by decide, by decide, by decide, by decide⟩ hC hM hT
theorem lop_clears (st : Int) (h : Int) (i : Int) (r_st : inI st) (r_h : inI h) (r_i : inI i) (hL : LS9 ar b o.2.1 σ w n) : op9 l D ar B b o yX11_clears cX11_clears 6 yX12_clears cX12_clears 4 .boolean [.int (iz st), .int (iz h), .int (iz i)] σ w n := by
  obtain ⟨τ, w0, Ow, rfl, hC, hM, hT⟩ := hL
  exact oq_x (k_X11_clears l (σ 1) τ st h i (hM.1 1) hC.1.1 hM.2.1.2.2.1 hM.2.1.2.2.2.2.1 hM.2.1.2.2.2.2.2.2.2.2.1 hM.2.1.2.2.2.2.2.2.2.2.2 hM.2.1.1 hM.2.1.2.2.2.1 hM.2.1.2.2.2.2.2.1 r_st r_h r_i) (k_clears l σ st h i hM.1 hM.2.1.1 hM.2.1.2.2.1 hM.2.1.2.2.2.2.1 hM.2.1.2.2.2.2.2.2.2.2.1 r_st r_h r_i) ⟨by decide, by decide, by decide, by decide⟩ hC hM hT
theorem lop_why (st : Int) (h : Int) (i : Int) (pay : Bool) (r_st : inI st) (r_h : inI h) (r_i : inI i) (hL : LS9 ar b o.2.1 σ w n) : op9 l D ar B b o yX11_why cX11_why 6 yX12_why cX12_why 5 .int [.int (iz st), .int (iz h), .int (iz i), .int (iz (xb pay))] σ w n := by
  obtain ⟨τ, w0, Ow, rfl, hC, hM, hT⟩ := hL
  exact oq_x (k_X11_why l (σ 1) τ st h i pay (hM.1 1) hC.1.1 hM.2.1.2.2.1 hM.2.1.2.2.2.2.1 hM.2.1.2.2.2.2.2.2.2.2.1 hM.2.1.2.2.2.2.2.2.2.2.2 hM.2.1.1 hM.2.1.2.2.2.1 hM.2.1.2.2.2.2.2.1 r_st r_h r_i) (k_why l σ st h i pay hM.1 hM.2.1.1 hM.2.1.2.2.1 hM.2.1.2.2.2.2.1 hM.2.1.2.2.2.2.2.2.2.2.1 r_st r_h r_i) ⟨by decide, by decide, by decide, by decide⟩ hC hM hT
theorem lop_sends (st : Int) (d : Int) (t : Int) (r_st : inI st) (r_d : inI d) (r_t : inI t) (hL : LS9 ar b o.2.1 σ w n) : op9 l D ar B b o yX11_sends cX11_sends 4 yX12_sends cX12_sends 4 .int [.int (iz st), .int (iz d), .int (iz t)] σ w n := by
  obtain ⟨τ, w0, Ow, rfl, hC, hM, hT⟩ := hL
  exact oq_x (k_X11_sends l (σ 1) τ st d t (hM.1 1) hC.1.1 hM.2.1.2.2.1 hM.2.1.2.2.2.2.1 hM.2.1.2.2.2.2.2.2.2.2.1 hM.2.1.2.2.2.2.2.2.2.2.2 hM.2.1.1 hM.2.1.2.2.2.1 hM.2.1.2.2.2.2.2.1 r_st r_d r_t) (k_sends l σ st d t hM.1 hM.2.1.1 hM.2.1.2.2.1 hM.2.1.2.2.2.2.1 hM.2.1.2.2.2.2.2.2.2.2.1 r_st r_d r_t) ⟨by decide, by decide, by decide, by decide⟩ hC hM hT
theorem lop_sent (h : Int) (i : Int) (r_h : inI h) (r_i : inI i) (hL : LS9 ar b o.2.1 σ w n) : op9 l D ar B b o yX11_sent cX11_sent 6 yX12_sent cX12_sent 3 .int [.int (iz h), .int (iz i)] σ w n := by
  obtain ⟨τ, w0, Ow, rfl, hC, hM, hT⟩ := hL
  exact oq_x (k_X11_sent l (σ 1) τ h i (hM.1 1) hC.1.1 hM.2.1.2.2.1 hM.2.1.2.2.2.2.1 hM.2.1.2.2.2.2.2.2.2.2.1 hM.2.1.2.2.2.2.2.2.2.2.2 hM.2.1.1 hM.2.1.2.2.2.1 hM.2.1.2.2.2.2.2.1 r_h r_i) (k_sent l σ h i hM.1 hM.2.1.1 hM.2.1.2.2.1 hM.2.1.2.2.2.2.1 hM.2.1.2.2.2.2.2.2.2.2.1 r_h r_i) ⟨by decide, by decide, by decide, by decide⟩ hC hM hT
theorem lop_paid (st : Int) (a : Int) (a9 : Int) (r_st : inI st) (r_a : inI a) (r_a9 : inI a9) (hL : LS9 ar b o.2.1 σ w n) : op9 l D ar B b o yX11_paid cX11_paid 7 yX12_paid cX12_paid 8 .int [.int (iz st), .int (iz a), .int (iz a9)] σ w n := by
  obtain ⟨τ, w0, Ow, rfl, hC, hM, hT⟩ := hL
  exact oq_x (k_X11_paid l (σ 1) τ st a a9 (hM.1 1) hC.1.1 hM.2.1.2.2.1 hM.2.1.2.2.2.2.1 hM.2.1.2.2.2.2.2.2.2.2.1 hM.2.1.2.2.2.2.2.2.2.2.2 hM.2.1.1 hM.2.1.2.2.2.1 hM.2.1.2.2.2.2.2.1 r_st r_a r_a9) (k_paid l σ st a a9 hM.1 hM.2.1.1 hM.2.1.2.2.1 hM.2.1.2.2.2.2.1 hM.2.1.2.2.2.2.2.2.2.2.1 r_st r_a r_a9) ⟨by decide, by decide, by decide, by decide⟩ hC hM hT
theorem lop_owed (st : Int) (a : Int) (a9 : Int) (r_st : inI st) (r_a : inI a) (r_a9 : inI a9) (hL : LS9 ar b o.2.1 σ w n) : op9 l D ar B b o yX11_owed cX11_owed 7 yX12_owed cX12_owed 7 .int [.int (iz st), .int (iz a), .int (iz a9)] σ w n := by
  obtain ⟨τ, w0, Ow, rfl, hC, hM, hT⟩ := hL
  exact oq_x (k_X11_owed l (σ 1) τ st a a9 (hM.1 1) hC.1.1 hM.2.1.2.2.1 hM.2.1.2.2.2.2.1 hM.2.1.2.2.2.2.2.2.2.2.1 hM.2.1.2.2.2.2.2.2.2.2.2 hM.2.1.1 hM.2.1.2.2.2.1 hM.2.1.2.2.2.2.2.1 r_st r_a r_a9) (k_owed l σ st a a9 hM.1 hM.2.1.1 hM.2.1.2.2.1 hM.2.1.2.2.2.2.1 hM.2.1.2.2.2.2.2.2.2.2.1 r_st r_a r_a9) ⟨by decide, by decide, by decide, by decide⟩ hC hM hT
theorem lop_town   (hL : LS9 ar b o.2.1 σ w n) : op9 l D ar B b o yX11_town cX11_town 1 yX12_town cX12_town 1 .int [] σ w n := by
  obtain ⟨τ, w0, Ow, rfl, hC, hM, hT⟩ := hL
  have hc9 := hM.2.1.1
  refine oq_t (k_X11_town l (σ 1) τ (hM.1 1) hC.1.1 hM.2.1.1) (k_town l σ hM.1 (by have := hM.2.1.1; omega)) ⟨by decide, by decide, by decide, by decide⟩ (Ow := Ow) ?_ (ms_town hM) ?_
  · by_cases ok : σ 1 0 = 8
    · rw [if_pos ok, if_pos ok]; exact hC
    · rw [if_neg ok, if_neg ok, u2_sA]
      exact ci_set hC (fun i hi => by simp only [ua]; (repeat' split) <;> first | rfl | (exfalso; omega)) (fun q hq => sA_ne _ _ (by unfold isj9 at hq; omega)) (rel_town hM.2.1.2.2.2.2.2.2.2.2.1 hC.1.1 _)
  · by_cases ok : σ 1 0 = 8
    · rw [if_pos ok]; exact hT
    · rw [if_neg ok, u2_sA]
      exact mt_set hT hM (by simp only [ua]; (repeat' split) <;> omega) (fun i hi => by simp only [ua]; (repeat' split) <;> first | rfl | (exfalso; omega))
theorem lop_summer (zone : Int) (f9 : Int) (to : Int) (r_zone : inI zone) (r_f9 : inI f9) (r_to : inI to) (hL : LS9 ar b o.2.1 σ w n) : op9 l D ar B b o yX11_summer cX11_summer 4 yX12_summer cX12_summer 4 .boolean [.int (iz zone), .int (iz f9), .int (iz to)] σ w n := by
  obtain ⟨τ, w0, Ow, rfl, hC, hM, hT⟩ := hL
  have hc9 := hM.2.1.1
  refine oq_t (k_X11_summer l (σ 1) τ zone f9 to (hM.1 1) hC.1.1 r_zone r_f9 r_to) (k_summer l σ zone f9 to hM.1 hM.2.1.1 r_zone r_f9 r_to) ⟨by decide, by decide, by decide, by decide⟩ (Ow := Ow) ?_ (ms_summer zone f9 to r_zone r_f9 r_to hM) ?_
  · by_cases ok : (0 ≤ zone ∧ zone ≤ 3) ∧ (0 ≤ f9 ∧ f9 ≤ 199) ∧ (0 ≤ to ∧ to ≤ 199)
    · rw [if_pos ok, if_pos ok]
      exact ci_set hC (fun i hi => by simp only [do_summer, ua]; (repeat' split) <;> first | rfl | (exfalso; omega)) (fun q hq => sA_ne _ _ (by unfold isj9 at hq; omega)) (rel_summer zone.toNat f9 to hM.2.1.2.2.2.2.2.2.2.2.1 hM.2.1.1 hC.1.1 (by omega) r_f9 r_to)
    · rw [if_neg ok, if_neg ok]; exact hC
  · by_cases ok : (0 ≤ zone ∧ zone ≤ 3) ∧ (0 ≤ f9 ∧ f9 ≤ 199) ∧ (0 ≤ to ∧ to ≤ 199)
    · rw [if_pos ok]
      exact mt_set hT hM (by simp only [do_summer, ua]; (repeat' split) <;> omega) (fun i hi => by simp only [do_summer, ua]; (repeat' split) <;> first | rfl | (exfalso; omega))
    · rw [if_neg ok]; exact hT
theorem lop_day (d : Int) (r_d : inI d) (hL : LS9 ar b o.2.1 σ w n) : op9 l D ar B b o yX11_day cX11_day 2 yX12_day cX12_day 2 .boolean [.int (iz d)] σ w n := by
  obtain ⟨τ, w0, Ow, rfl, hC, hM, hT⟩ := hL
  have hc9 := hM.2.1.1
  refine oq_t (k_X11_day l (σ 1) τ d (hM.1 1) hC.1.1 hM.2.1.1 r_d) (k_day l σ d hM.1 hM.2.1.1 r_d) ⟨by decide, by decide, by decide, by decide⟩ (Ow := Ow) ?_ (ms_day d r_d hM) ?_
  · by_cases ok : σ 1 8 ≤ d ∧ d ≤ 199
    · rw [if_pos ok, if_pos ok]
      exact ci_set hC (fun i hi => by simp only [ua]; (repeat' split) <;> first | rfl | (exfalso; omega)) (fun q hq => sA_ne _ _ (by unfold isj9 at hq; omega)) (rel_day hM.2.1.2.2.2.2.2.2.2.2.1 hC.1.1 _)
    · rw [if_neg ok, if_neg ok]; exact hC
  · by_cases ok : σ 1 8 ≤ d ∧ d ≤ 199
    · rw [if_pos ok]
      exact mt_set hT hM (by simp only [ua]; (repeat' split) <;> omega) (fun i hi => by simp only [ua]; (repeat' split) <;> first | rfl | (exfalso; omega))
    · rw [if_neg ok]; exact hT
theorem lop_view (d : Int) (r_d : inI d) (hL : LS9 ar b o.2.1 σ w n) : op9 l D ar B b o yX11_view cX11_view 2 yX12_view cX12_view 2 .boolean [.int (iz d)] σ w n := by
  obtain ⟨τ, w0, Ow, rfl, hC, hM, hT⟩ := hL
  have hc9 := hM.2.1.1
  refine oq_t (k_X11_view l (σ 1) τ d (hM.1 1) hC.1.1 hM.2.1.1 r_d) (k_view l σ d hM.1 hM.2.1.1 r_d) ⟨by decide, by decide, by decide, by decide⟩ (Ow := Ow) ?_ (ms_view d r_d hM) ?_
  · by_cases ok : d = -1 ∨ (0 ≤ d ∧ d ≤ σ 1 8)
    · rw [if_pos ok, if_pos ok]
      exact ci_set hC (fun i hi => by simp only [ua]; (repeat' split) <;> first | rfl | (exfalso; omega)) (fun q hq => sA_ne _ _ (by unfold isj9 at hq; omega)) (rel_view hM.2.1.2.2.2.2.2.2.2.2.1 hC.1.1 _)
    · rw [if_neg ok, if_neg ok]; exact hC
  · by_cases ok : d = -1 ∨ (0 ≤ d ∧ d ≤ σ 1 8)
    · rw [if_pos ok]
      exact mt_set hT hM (by simp only [ua]; (repeat' split) <;> omega) (fun i hi => by simp only [ua]; (repeat' split) <;> first | rfl | (exfalso; omega))
    · rw [if_neg ok]; exact hT
theorem lop_hands (h9 : Int) (r_h9 : inI h9) (hL : LS9 ar b o.2.1 σ w n) : op9 l D ar B b o yX11_hands cX11_hands 2 yX12_hands cX12_hands 2 .boolean [.int (iz h9)] σ w n := by
  obtain ⟨τ, w0, Ow, rfl, hC, hM, hT⟩ := hL
  have hc9 := hM.2.1.1
  refine oq_t (k_X11_hands l (σ 1) τ h9 (hM.1 1) hC.1.1 hM.2.1.1 r_h9) (k_hands l σ h9 hM.1 hM.2.1.1 r_h9) ⟨by decide, by decide, by decide, by decide⟩ (Ow := Ow) ?_ (ms_hands h9 r_h9 hM) ?_
  · by_cases ok : 1 ≤ h9 ∧ h9 ≤ 3
    · rw [if_pos ok, if_pos ok]
      exact ci_set hC (fun i hi => by simp only [ua]; (repeat' split) <;> first | rfl | (exfalso; omega)) (fun q hq => sA_ne _ _ (by unfold isj9 at hq; omega)) (rel_hands hM.2.1.2.2.2.2.2.2.2.2.1 hC.1.1 _)
    · rw [if_neg ok, if_neg ok]; exact hC
  · by_cases ok : 1 ≤ h9 ∧ h9 ≤ 3
    · rw [if_pos ok]
      exact mt_set hT hM (by simp only [ua]; (repeat' split) <;> omega) (fun i hi => by simp only [ua]; (repeat' split) <;> first | rfl | (exfalso; omega))
    · rw [if_neg ok]; exact hT
theorem lop_end (n9 : Int) (r_n9 : inI n9) (hL : LS9 ar b o.2.1 σ w n) : op9 l D ar B b o yX11_end cX11_end 2 yX12_end cX12_end 2 .int [.int (iz n9)] σ w n := by
  obtain ⟨τ, w0, Ow, rfl, hC, hM, hT⟩ := hL
  have hc9 := hM.2.1.1
  refine oq_t (k_X11_end l (σ 1) τ n9 (hM.1 1) hC.1.1 hM.2.1.1 r_n9) (k_end l σ n9 hM.1 hM.2.1.1 r_n9) ⟨by decide, by decide, by decide, by decide⟩ (Ow := Ow) ?_ (ms_end n9 r_n9 hM) ?_
  · by_cases ok : 0 ≤ n9 ∧ n9 ≤ σ 1 10
    · rw [if_pos ok, if_pos ok]
      exact ci_set hC (fun i hi => by simp only [ua]; (repeat' split) <;> first | rfl | (exfalso; omega)) (fun q hq => sA_ne _ _ (by unfold isj9 at hq; omega)) (rel_end hM.2.1.2.2.2.2.2.2.2.2.1 hC.1.1 _ ok.2)
    · rw [if_neg ok, if_neg ok]; exact hC
  · by_cases ok : 0 ≤ n9 ∧ n9 ≤ σ 1 10
    · rw [if_pos ok]
      exact mt_set hT hM (by simp only [ua]; (repeat' split) <;> omega) (fun i hi => by simp only [ua]; (repeat' split) <;> first | rfl | (exfalso; omega))
    · rw [if_neg ok]; exact hT
theorem lop_own (st : Int) (bits : Int) (r_st : inI st) (r_bits : inI bits) (hL : LS9 ar b o.2.1 σ w n) : op9 l D ar B b o yX11_own cX11_own 3 yX12_own cX12_own 3 .boolean [.int (iz st), .int (iz bits)] σ w n := by
  obtain ⟨τ, w0, Ow, rfl, hC, hM, hT⟩ := hL
  have hc9 := hM.2.1.1
  refine oq_t (k_X11_own l (σ 1) τ st bits (hM.1 1) hC.1.1 hM.2.1.1 r_st r_bits) (k_own l σ st bits hM.1 hM.2.1.1 r_st r_bits) ⟨by decide, by decide, by decide, by decide⟩ (Ow := Ow) ?_ (ms_own st bits r_st r_bits hM) ?_
  · by_cases ok : (0 ≤ st ∧ st ≤ σ 1 2 - 1) ∧ (0 ≤ bits ∧ bits ≤ 255)
    · rw [if_pos ok, if_pos ok]
      exact ci_set hC (fun i hi => by simp only [ua]; (repeat' split) <;> first | rfl | (exfalso; omega)) (fun q hq => sA_ne _ _ (by unfold isj9 at hq; omega)) (rel_own st.toNat bits hM.2.1.2.2.2.2.2.2.2.2.1 hM.2.1.1 hC.1.1 (by omega))
    · rw [if_neg ok, if_neg ok]; exact hC
  · by_cases ok : (0 ≤ st ∧ st ≤ σ 1 2 - 1) ∧ (0 ≤ bits ∧ bits ≤ 255)
    · rw [if_pos ok]
      exact mt_set hT hM (by simp only [ua]; (repeat' split) <;> omega) (fun i hi => by simp only [ua]; (repeat' split) <;> first | rfl | (exfalso; omega))
    · rw [if_neg ok]; exact hT
theorem lop_worth (pi : Int) (tn : Int) (wo : Int) (r_pi : inI pi) (r_tn : inI tn) (r_wo : inI wo) (hL : LS9 ar b o.2.1 σ w n) : op9 l D ar B b o yX11_worth cX11_worth 4 yX12_worth cX12_worth 4 .boolean [.int (iz pi), .int (iz tn), .int (iz wo)] σ w n := by
  obtain ⟨τ, w0, Ow, rfl, hC, hM, hT⟩ := hL
  have hc9 := hM.2.1.1
  refine oq_t (k_X11_worth l (σ 1) τ pi tn wo (hM.1 1) hC.1.1 hM.2.1.1 r_pi r_tn r_wo) (k_worth l σ pi tn wo hM.1 hM.2.1.1 r_pi r_tn r_wo) ⟨by decide, by decide, by decide, by decide⟩ (Ow := Ow) ?_ (by
    by_cases ok : (0 ≤ pi ∧ pi ≤ σ 1 7 - 1) ∧ (0 ≤ tn ∧ tn ≤ 5) ∧ (0 ≤ wo ∧ wo ≤ 9999)
    · rw [if_pos ok]; exact ms_worth pi tn wo r_wo hM ok
    · rw [if_neg ok]; exact hM) ?_
  · by_cases ok : (0 ≤ pi ∧ pi ≤ σ 1 7 - 1) ∧ (0 ≤ tn ∧ tn ≤ 5) ∧ (0 ≤ wo ∧ wo ≤ 9999)
    · rw [if_pos ok, if_pos ok]
      exact ci_set hC (fun i hi => by simp only [ua]; (repeat' split) <;> first | rfl | (exfalso; omega)) (fun q hq => sA_ne _ _ (by unfold isj9 at hq; omega)) (rel_worth pi.toNat tn.toNat wo hM.2.1.2.2.2.2.2.2.2.2.1 hM.2.1.1 hC.1.1 (by omega) (by omega))
    · rw [if_neg ok, if_neg ok]; exact hC
  · by_cases ok : (0 ≤ pi ∧ pi ≤ σ 1 7 - 1) ∧ (0 ≤ tn ∧ tn ≤ 5) ∧ (0 ≤ wo ∧ wo ≤ 9999)
    · rw [if_pos ok]
      exact mt_set hT hM (by simp only [ua]; (repeat' split) <;> omega) (fun i hi => by simp only [ua]; (repeat' split) <;> first | rfl | (exfalso; omega))
    · rw [if_neg ok]; exact hT
theorem lop_calls (st : Int) (ca : Int) (he : Int) (r_st : inI st) (r_ca : inI ca) (r_he : inI he) (hL : LS9 ar b o.2.1 σ w n) : op9 l D ar B b o yX11_calls cX11_calls 5 yX12_calls cX12_calls 5 .int [.int (iz st), .int (iz ca), .int (iz he)] σ w n := by
  obtain ⟨τ, w0, Ow, rfl, hC, hM, hT⟩ := hL
  have hc9 := hM.2.1.1
  refine oq_t (k_X11_calls l (σ 1) τ st ca he (hM.1 1) hC.1.1 hM.2.1.1 r_st r_ca r_he) (k_calls l σ st ca he hM.1 hM.2.1.1 r_st r_ca r_he) ⟨by decide, by decide, by decide, by decide⟩ (Ow := Ow) ?_ (ms_calls st ca he r_st r_ca r_he hM) ?_
  · by_cases ok : ok_calls (σ 1) st ca he
    · rw [if_pos ok, if_pos ok]
      exact ci_set hC (fun i hi => by simp only [do_calls, ua]; (repeat' split) <;> first | rfl | (exfalso; omega)) (fun q hq => by rw [sA_ne _ _ (by unfold isj9 at hq; omega), sA_ne _ _ (by unfold isj9 at hq; omega)]) (rel_calls (σ 1 6).toNat st ca he hM.2.1.2.2.2.2.2.2.2.2.1 hM.2.1.1 hC.1.1 (by omega) (by omega))
    · rw [if_neg ok, if_neg ok]; exact hC
  · by_cases ok : ok_calls (σ 1) st ca he
    · rw [if_pos ok]
      exact mt_set hT hM (by simp only [do_calls, ua]; (repeat' split) <;> omega) (fun i hi => by simp only [do_calls, ua]; (repeat' split) <;> first | rfl | (exfalso; omega))
    · rw [if_neg ok]; exact hT
theorem lop_piece (so : Int) (r_so : inI so) (hL : LS9 ar b o.2.1 σ w n) : op9 l D ar B b o yX11_piece cX11_piece 2 yX12_piece cX12_piece 4 .int [.int (iz so)] σ w n := by
  obtain ⟨τ, w0, Ow, rfl, hC, hM, hT⟩ := hL
  have hc9 := hM.2.1.1
  have v := pz_v (σ 1) (750 + 7 * (σ 1 7).toNat) so 6
  refine oq_t (k_X11_piece l (σ 1) τ so (hM.1 1) hC.1.1 hM.2.1.1 r_so) (k_piece l σ so hM.1 hM.2.1.1 r_so) ⟨by decide, by decide, by decide, by decide⟩ (Ow := Ow) ?_ (ms_piece so hM) ?_
  · by_cases ok : ¬ σ 1 7 = 6 ∧ (0 ≤ so ∧ so ≤ 7)
    · rw [if_pos ok, if_pos ok]
      refine ci_gen hC (sA_ne _ _ (by decide)) (fun i hi => ?_) (fun j hj => by rw [sA_ne _ _ (by unfold isj9 at hj; omega), sA_ne _ _ (by unfold isj9 at hj; omega)]) (by rw [sA_ne _ _ (by decide), sA_ne _ _ (by decide)]) (by rw [sA_at]; exact rel_piece (σ 1 7).toNat so hM.2.1.2.2.2.2.2.2.2.2.1 hM.2.1.1 hC.1.1 (by omega) (by omega)) (fun i hi => by rw [sA_ne _ _ (by decide), sA_ne _ _ (by decide)]; exact hC.1.2.2.1 i hi) (fun i hi => ?_)
      · rw [sA_at]
        unfold do_piece
        rw [ua_ne _ _ (by omega)]
        exact v.2.2 i (by omega)
      · rw [sA_at]
        by_cases e : i = (σ 1 7).toNat
        · rw [e, ua_at]; exact r_so
        · rw [ua_ne _ _ e]; exact hC.1.2.2.2 i hi
    · rw [if_neg ok, if_neg ok]; exact hC
  · by_cases ok : ¬ σ 1 7 = 6 ∧ (0 ≤ so ∧ so ≤ 7)
    · rw [if_pos ok]
      refine mt_set hT hM ?_ (fun i hi => ?_)
      · unfold do_piece
        rw [ua_ne _ _ (by omega), v.2.2 10 (by omega)]
        exact Int.le_refl _
      · unfold do_piece
        rw [ua_ne _ _ (by omega)]
        exact v.2.2 i (by omega)
    · rw [if_neg ok]; exact hT
theorem lop_feed (a : Int) (b1 : Int) (c1 : Int) (d1 : Int) (e1 : Int) (r_a : inI a) (r_b1 : inI b1) (r_c1 : inI c1) (r_d1 : inI d1) (r_e1 : inI e1) (hL : LS9 ar b o.2.1 σ w n) : op9 l D ar B b o yX11_feed cX11_feed 6 yX12_feed cX12_feed 8 .int [.int (iz a), .int (iz b1), .int (iz c1), .int (iz d1), .int (iz e1)] σ w n := by
  obtain ⟨τ, w0, Ow, rfl, hC, hM, hT⟩ := hL
  have hc9 := hM.2.1.1
  have mm := ms_feed a b1 c1 d1 e1 hM
  refine oq_t (k_X11_feed l (σ 1) τ a b1 c1 d1 e1 (hM.1 1) hC.1.1 hM.2.1.1 r_a r_b1 r_c1 r_d1 r_e1) (k_feed l σ a b1 c1 d1 e1 hM.1 hM.2.1.1 r_a r_b1 r_c1 r_d1 r_e1) ⟨by decide, by decide, by decide, by decide⟩ (Ow := Ow) ?_ mm ?_
  · by_cases ok : 500 < σ 1 10 + 20
    · rw [if_pos ok, if_pos ok]; exact hC
    · rw [if_neg ok, if_neg ok]
      refine ci_gen hC (sA_ne _ _ (by decide)) (fun i hi => ?_) (fun j hj => by rw [sA_ne _ _ (by unfold isj9 at hj; omega), sA_ne _ _ (by unfold isj9 at hj; omega)]) (by rw [sA_ne _ _ (by decide), sA_ne _ _ (by decide)]) (by rw [sA_at]; exact rel_feed a b1 c1 d1 e1 hM.2.1.2.2.2.2.2.2.2.2.1 hM.2.1.1 hC.1.1 (by omega)) ?_ (fun i hi => by rw [sA_ne _ _ (by decide), sA_ne _ _ (by decide)]; exact hC.1.2.2.2 i hi)
      · rw [sA_at]
        exact (fd_v (σ 1) a b1 c1 d1 e1 (by omega) 20 (by omega)).2.2 i (by omega) (by omega)
      · unfold byt9
        rw [sA_at]
        exact pt_r (pt_r (pt_r (pt_r (pt_r hC.1.2.2.1 _ _ 4) _ _ 4) _ _ 4) _ _ 4) _ _ 4
  · by_cases ok : 500 < σ 1 10 + 20
    · rw [if_pos ok]; exact hT
    · rw [if_neg ok]; exact mt_feed a b1 c1 d1 e1 hT hM ok
end OPS
