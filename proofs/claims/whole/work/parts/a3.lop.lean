/-! one call of the law: class and reference side by side -/
theorem met_mono {l : Launch} {y : MethodName} {ws : List Cond} {rm : Room} {Pc Pc' : Array Value → State → Prop} {Qc Qc' : Array Value → State → Outcome → State → Prop} {mc ms : Nat} {free : Addr → Prop} (h : Met l y ws rm Pc Qc mc ms free) (hP : ∀ a s, Pc' a s → Pc a s) (hQ : ∀ a s o t, Qc a s o t → Qc' a s o t) : Met l y ws rm Pc' Qc' mc ms free := by
  intro p e ha hc hk s m args below hf hap hp ht
  obtain ⟨k, o, h1, h2, h3, hq, hL⟩ := h p e ha hc hk s m args below hf hap (hP _ _ hp) ht
  exact ⟨k, o, h1, h2, h3, hQ _ _ _ _ hq, hL⟩
section OP
variable {l : Launch} {D : va_G} {ar : Nat → ClassId} {B : Nat → Prop} {o : olP} {y : MethodName} {cc : ByteArray} {mL fr lo mc ms : Nat} {ret : Option FieldType} {as : List Value} {w : zcW} {n : Nat} {Po Po' : Option Value → zcW → Nat → Prop}
theorem zc_zo (h : zc_M l D ar B y cc mL ret fr lo mc ms as w n Po) (hq : ∀ r w' n', Po r w' n' → Po' r w' n') : zo_M l D ar B o y cc mL ret fr lo mc ms as w n Po' :=
  met_mono h (fun a s z => ⟨z.1, z.2.1⟩) (fun a s q t z => by obtain ⟨r, w', n', z1, z2⟩ := z; exact ⟨r, w', n', hq _ _ _ z1, z2⟩)
theorem zo_zo (h : zo_M l D ar B o y cc mL ret fr lo mc ms as w n Po) (hq : ∀ r w' n', Po r w' n' → Po' r w' n') : zo_M l D ar B o y cc mL ret fr lo mc ms as w n Po' :=
  met_mono h (fun a s z => z) (fun a s q t z => by obtain ⟨r, w', n', z1, z2⟩ := z; exact ⟨r, w', n', hq _ _ _ z1, z2⟩)
end OP
/-- what is always so of both -/
def LS9 (ar : Nat → ClassId) (b e0 : Nat) (σ : Nat → Nat → Int) (w : zcW) (n : Nat) : Prop := ∃ (τ : Nat → Nat → Int) (w0 : zcW) (Ow : Nat → Nat), w = cw ar b τ w0 ∧ CI9 ar b w0 n e0 Ow σ τ ∧ Ms9 σ ∧ Mt9 σ
/-- a call that both answer alike -/
def op9 (l : Launch) (D : va_G) (ar : Nat → ClassId) (B : Nat → Prop) (b : Nat) (o : olP) (yC : MethodName) (cC : ByteArray) (mC : Nat) (yM : MethodName) (cM : ByteArray) (mM : Nat) (ret : FieldType) (as : List Value) (σ : Nat → Nat → Int) (w : zcW) (n : Nat) : Prop :=
  ∃ (fr lo mc ms fq lq : Nat) (r : Int) (σ' : Nat → Nat → Int), (fr ≤ 20 ∧ lo ≤ 600 ∧ mc ≤ 130 ∧ ms ≤ 7523 ∧ fq ≤ 20 ∧ lq ≤ 600) ∧ zo_M l D ar B o yC cC mC (some ret) fr lo mc ms (.ref b :: as) w n (fun r' w' n' => r' = some (.int (iz r)) ∧ LS9 ar b o.2.1 σ' w' n') ∧ moM l D (ar 0) (ar 5) (b + 51) yM cM mM (some ret) fq lq (.ref (b + 51) :: as) σ (some (.int (iz r))) σ'
section OQ
variable {l : Launch} {D : va_G} {ar : Nat → ClassId} {B : Nat → Prop} {o : olP} {yC yM : MethodName} {cC cM : ByteArray} {mC mM fr lo fq lq : Nat} {ret : FieldType} {as : List Value} {w0 : zcW} {n b : Nat} {σ σ' τ τ' : Nat → Nat → Int} {r : Int} {Ow : Nat → Nat} {Po : Option Value → zcW → Nat → Prop} {F : (Nat → Nat → Int) → Nat → Nat → Int}
theorem oq_t (h : zt_M l D ar B b w0 n yC cC mC (some ret) fr lo (.ref b :: as) τ (some (.int (iz r))) τ') (g : moM l D (ar 0) (ar 5) (b + 51) yM cM mM (some ret) fq lq (.ref (b + 51) :: as) σ (some (.int (iz r))) σ') (hb : fr ≤ 20 ∧ lo ≤ 600 ∧ fq ≤ 20 ∧ lq ≤ 600) (k1 : CI9 ar b w0 n o.2.1 Ow σ' τ') (k2 : Ms9 σ') (k3 : Mt9 σ') : op9 l D ar B b o yC cC mC yM cM mM ret as σ (cw ar b τ w0) n :=
  ⟨fr, lo, 0, 0, fq, lq, r, σ', ⟨hb.1, hb.2.1, by decide, by decide, hb.2.2.1, hb.2.2.2⟩, zc_zo h (fun r' w' n' z => ⟨z.1, τ', w0, Ow, z.2.1, by rw [z.2.2]; exact k1, k2, k3⟩), g⟩
theorem oq_x (h : zx_M l D ar B b w0 n yC cC mC (some ret) fr lo (.ref b :: as) τ (some (.int (iz r)))) (g : moM l D (ar 0) (ar 5) (b + 51) yM cM mM (some ret) fq lq (.ref (b + 51) :: as) σ (some (.int (iz r))) σ) (hb : fr ≤ 20 ∧ lo ≤ 600 ∧ fq ≤ 20 ∧ lq ≤ 600) (k1 : CI9 ar b w0 n o.2.1 Ow σ τ) (k2 : Ms9 σ) (k3 : Mt9 σ) : op9 l D ar B b o yC cC mC yM cM mM ret as σ (cw ar b τ w0) n :=
  ⟨fr, lo, 0, 0, fq, lq, r, σ, ⟨hb.1, hb.2.1, by decide, by decide, hb.2.2.1, hb.2.2.2⟩, zc_zo h (fun r' w' n' z => by
    obtain ⟨z1, ⟨X, z2⟩, z3⟩ := z
    exact ⟨z1, sA τ 18 X, w0, Ow, z2, by rw [z3]; exact ci_scr k1 rfl rfl (fun j hj _ => sA_ne _ _ (by omega)) (by rw [sA_ne _ _ (by decide)]) (sA_ne _ _ (by decide)), k2, k3⟩), g⟩
theorem oq_s {r1 : Int} (h : zs_M l D ar B b w0 n yC cC mC (some ret) fr lo (.ref b :: as) τ (some (.int (iz r1))) F) (g : moM l D (ar 0) (ar 5) (b + 51) yM cM mM (some ret) fq lq (.ref (b + 51) :: as) σ (some (.int (iz r))) σ') (he : r1 = r) (hb : fr ≤ 20 ∧ lo ≤ 600 ∧ fq ≤ 20 ∧ lq ≤ 600) (k1 : ∀ X, CI9 ar b w0 n o.2.1 Ow σ' (F X)) (k2 : Ms9 σ') (k3 : Mt9 σ') : op9 l D ar B b o yC cC mC yM cM mM ret as σ (cw ar b τ w0) n :=
  ⟨fr, lo, 0, 0, fq, lq, r, σ', ⟨hb.1, hb.2.1, by decide, by decide, hb.2.2.1, hb.2.2.2⟩, zc_zo h (fun r' w' n' z => by
    obtain ⟨z1, ⟨X, z2⟩, z3⟩ := z
    exact ⟨by rw [z1, he], F X, w0, Ow, z2, by rw [z3]; exact k1 X, k2, k3⟩), g⟩
theorem oq_o {w : zcW} {mc ms : Nat} (h : zo_M l D ar B o yC cC mC (some ret) fr lo mc ms (.ref b :: as) w n Po) (g : moM l D (ar 0) (ar 5) (b + 51) yM cM mM (some ret) fq lq (.ref (b + 51) :: as) σ (some (.int (iz r))) σ') (hb : fr ≤ 20 ∧ lo ≤ 600 ∧ mc ≤ 130 ∧ ms ≤ 7523 ∧ fq ≤ 20 ∧ lq ≤ 600) (k : ∀ r' w' n', Po r' w' n' → r' = some (.int (iz r)) ∧ LS9 ar b o.2.1 σ' w' n') : op9 l D ar B b o yC cC mC yM cM mM ret as σ w n :=
  ⟨fr, lo, mc, ms, fq, lq, r, σ', hb, zo_zo h k, g⟩
theorem ci_set {A2 : Nat → Int} (hC : CI9 ar b w0 n o.2.1 Ow σ τ) (s1 : ∀ i, 2260 ≤ i → A2 i = σ 1 i) (ht : ∀ q, (isj9 q ∨ q = 9 ∨ q = 13 ∨ q = 23) → τ' q = τ q) (hR : Rel9 ar b w0 A2 τ') : CI9 ar b w0 n o.2.1 Ow (sA σ 1 A2) τ' :=
  ci_gen hC (sA_ne _ _ (by decide)) (fun i hi => by rw [sA_at]; exact s1 i hi) (fun j hj => ht j (Or.inl hj)) (ht 23 (Or.inr (Or.inr (Or.inr rfl)))) (by rw [sA_at]; exact hR) (fun i hi => by rw [ht 9 (Or.inr (Or.inl rfl))]; exact hC.1.2.2.1 i hi) (fun i hi => by rw [ht 13 (Or.inr (Or.inr (Or.inl rfl)))]; exact hC.1.2.2.2 i hi)
end OQ
