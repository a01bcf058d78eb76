section AMI
variable {E : am_E} {C : am_C} {cc : ByteArray} {own : String} {nL : Nat} {ret : Option FieldType} {R : Room} {Q : State → Prop} {μ : am_M} {cl sl pc : Nat} {ls : List (Option Value)} {st : List Value}
theorem am_fv_sI {E : am_E} {μ : am_M} {n k : Nat} {x : Int32} (ht : am_ty (mm_S μ n).1 k = .int) (j : Nat) : am_fv E (mm_sI μ n k x) n j = if j = k then .int x else am_fv E μ n j := by
  by_cases h : j = k
  · subst h
    simp only [am_fv, mS_sI, ht, if_true, mI_same]
  · simp only [am_fv, mS_sI, mL_sI, mR_sI, if_neg h, mI_sI, true_and, if_neg h]
theorem am_fv_sL {E : am_E} {μ : am_M} {n k : Nat} {x : Int64} (ht : am_ty (mm_S μ n).1 k = .long) (j : Nat) : am_fv E (mm_sL μ n k x) n j = if j = k then .long x else am_fv E μ n j := by
  by_cases h : j = k
  · subst h
    simp only [am_fv, mS_sL, ht, if_true, mL_same]
  · simp only [am_fv, mS_sL, mI_sL, mR_sL, if_neg h, mL_sL, true_and, if_neg h]
theorem am_fv_sR {E : am_E} {μ : am_M} {n k : Nat} {x : Option Nat} (ht : am_isR (am_ty (mm_S μ n).1 k) = true) (j : Nat) : am_fv E (mm_sR μ n k x) n j = if j = k then va_rf (x.map (am_rho E)) else am_fv E μ n j := by
  by_cases h : j = k
  · subst h
    rw [am_fvR (by rw [mS_sR]; exact ht), if_pos rfl, mR_sR, if_pos ⟨rfl, rfl⟩]
  · simp only [am_fv, mS_sR, mI_sR, mL_sR, if_neg h, mR_sR, true_and, if_neg h]
theorem am_oI {μ : am_M} {n k : Nat} {x : Int32} : ∀ a, a ≠ n → ∀ j, mm_I (mm_sI μ n k x) a j = mm_I μ a j ∧ mm_L (mm_sI μ n k x) a j = mm_L μ a j ∧ mm_R (mm_sI μ n k x) a j = mm_R μ a j := fun _ ha _ => ⟨mI_ne (Or.inl ha), rfl, rfl⟩
theorem am_oL {μ : am_M} {n k : Nat} {x : Int64} : ∀ a, a ≠ n → ∀ j, mm_I (mm_sL μ n k x) a j = mm_I μ a j ∧ mm_L (mm_sL μ n k x) a j = mm_L μ a j ∧ mm_R (mm_sL μ n k x) a j = mm_R μ a j := fun _ ha _ => ⟨rfl, mL_ne (Or.inl ha), rfl⟩
theorem am_oR {μ : am_M} {n k : Nat} {x : Option Nat} : ∀ a, a ≠ n → ∀ j, mm_I (mm_sR μ n k x) a j = mm_I μ a j ∧ mm_L (mm_sR μ n k x) a j = mm_L μ a j ∧ mm_R (mm_sR μ n k x) a j = mm_R μ a j := fun _ ha _ => ⟨rfl, rfl, by rw [mR_sR, if_neg (fun q => ha q.1)]⟩
theorem am_putI (fx : am_F E C cc own nL ret R) {n ci k idx : Nat} {x : Int32} (hd : decode cc pc = .ok (.putfield idx, 3)) (lk : am_lk own idx ci k) (hc : ci < 8) (hk : k < (am_cl ci).2.2) (hfin : ((am_cl ci).2.1 k).2.2.2 = false) (ht : am_ty ci k = .int) (hs : (mm_S μ n).1 = ci) (kk : am_W E C Q (mm_sI μ n k x) cl sl (pc + 3) ls st) : am_W E C Q μ cl sl pc ls (.int x :: .ref n :: st) :=
  am_putV fx (w := .int x) (μ' := mm_sI μ n k x) hd lk hc hk hfin hs (by rw [ht]; rfl) (by rw [ht]; rfl) (fun _ => rfl) rfl am_oI (am_fv_sI (by rw [hs]; exact ht)) kk
theorem am_putL (fx : am_F E C cc own nL ret R) {n ci k idx : Nat} {x : Int64} (hd : decode cc pc = .ok (.putfield idx, 3)) (lk : am_lk own idx ci k) (hc : ci < 8) (hk : k < (am_cl ci).2.2) (hfin : ((am_cl ci).2.1 k).2.2.2 = false) (ht : am_ty ci k = .long) (hs : (mm_S μ n).1 = ci) (kk : am_W E C Q (mm_sL μ n k x) cl sl (pc + 3) ls st) : am_W E C Q μ cl sl pc ls (.long x :: .ref n :: st) :=
  am_putV fx (w := .long x) (μ' := mm_sL μ n k x) hd lk hc hk hfin hs (by rw [ht]; rfl) (by rw [ht]; rfl) (fun _ => rfl) rfl am_oL (am_fv_sL (by rw [hs]; exact ht)) kk
theorem am_putR (fx : am_F E C cc own nL ret R) {n ci k idx : Nat} {a : Nat} (hd : decode cc pc = .ok (.putfield idx, 3)) (lk : am_lk own idx ci k) (hc : ci < 8) (hk : k < (am_cl ci).2.2) (hfin : ((am_cl ci).2.1 k).2.2.2 = false) (ht : am_isR (am_ty ci k) = true) (hs : (mm_S μ n).1 = ci) (kk : am_W E C Q (mm_sR μ n k (some a)) cl sl (pc + 3) ls st) : am_W E C Q μ cl sl pc ls (.ref a :: .ref n :: st) :=
  am_putV fx (w := .ref a) (μ' := mm_sR μ n k (some a)) hd lk hc hk hfin hs (by revert ht; generalize am_ty ci k = t; intro ht; cases t <;> first | rfl | (cases ht)) (by revert ht; generalize am_ty ci k = t; intro ht; cases t <;> first | rfl | (cases ht)) (fun _ => rfl) rfl am_oR (am_fv_sR (by rw [hs]; exact ht)) kk
theorem am_putN (fx : am_F E C cc own nL ret R) {n ci k idx : Nat} (hd : decode cc pc = .ok (.putfield idx, 3)) (lk : am_lk own idx ci k) (hc : ci < 8) (hk : k < (am_cl ci).2.2) (hfin : ((am_cl ci).2.1 k).2.2.2 = false) (ht : am_isR (am_ty ci k) = true) (hs : (mm_S μ n).1 = ci) (kk : am_W E C Q (mm_sR μ n k none) cl sl (pc + 3) ls st) : am_W E C Q μ cl sl pc ls (.null :: .ref n :: st) :=
  am_putV fx (w := .null) (μ' := mm_sR μ n k none) hd lk hc hk hfin hs (by revert ht; generalize am_ty ci k = t; intro ht; cases t <;> first | rfl | (cases ht)) (by revert ht; generalize am_ty ci k = t; intro ht; cases t <;> first | rfl | (cases ht)) (fun _ => rfl) rfl am_oR (am_fv_sR (by rw [hs]; exact ht)) kk
/-- a final field, in the constructor of its class -/
theorem am_putFV (fx : am_F E C cc own nL ret R) (hin : (cx_M C).name = "<init>") {n ci k idx : Nat} {w : Value} {μ' : am_M} (hd : decode cc pc = .ok (.putfield idx, 3)) (lk : Cond.fieldLink own idx ((am_cl ci).2.1 k).1 ((am_cl ci).2.1 k).2.1 ((am_cl ci).2.1 k).2.2.1 ∈ am_G) (hc : ci < 8) (hk : k < (am_cl ci).2.2) (hfin : ((am_cl ci).2.1 k).2.2.2 = true) (hdecl : ((am_cl ci).2.1 k).1 = own) (hs : (mm_S μ n).1 = ci) (hn : narrow (am_ty ci k) (am_tr E w) = am_tr E w) (hfit : fits (am_ty ci k) (am_tr E w) = true)
    (hSm : ∀ a, mm_S μ' a = mm_S μ a) (hZ : mm_Z μ' = mm_Z μ) (ho : ∀ a, a ≠ n → ∀ k, mm_I μ' a k = mm_I μ a k ∧ mm_L μ' a k = mm_L μ a k ∧ mm_R μ' a k = mm_R μ a k) (hv : ∀ j, am_fv E μ' n j = if j = k then am_tr E w else am_fv E μ n j) (kk : am_W E C Q μ' cl sl (pc + 3) ls st) : am_W E C Q μ cl sl pc ls (w :: .ref n :: st) := by
  intro H locs la hA hS hl
  have hat := (hA.2.2 n).2.1 (by rw [hs]; exact hc)
  rw [hs] at hat
  obtain ⟨cell, q1, q2, q3, q4⟩ := hat
  have hK := fx.2.2.2.2.2.1.1
  have hap := va_apart (own := own) fx.2.2.2.2.1 (am_inC hc) (am_ty ci) (am_tyC hc) (am_nmC hc) hK (am_cl_at hc)
  obtain ⟨hSl, hfc, kC, hkC, hkind⟩ := hK.1 ci _ (am_cl_at hc)
  obtain ⟨cf, kf, fi, f, hi, hsl⟩ := hSl k hk
  have hlay := fx.2.2.2.2.1 _ (am_inC hc _ (u_in_lay hk))
  unfold u_lay at hlay
  rw [if_pos hfin] at hlay
  have hst := (u_facts hfc hkC (u_lays fx.2.2.2.2.1 (am_inC hc) hk) hi).1
  have hcf : (cx_m C).cls = cf := by
    obtain ⟨_, _, c', _, _, _, -, -, hf', -, -, -, hown2, -⟩ := Cond.laysFinal_spec hlay
    have e1 : c' = cf := by have := hi.symm.trans hf'; simp at this; exact this.1.symm
    rw [hdecl] at hown2
    rw [← e1]; exact Option.some.inj (fx.2.2.2.1.symm.trans hown2)
  have h6 := u_fits hfc hkC hkind (Or.inr hlay) hi (am_tyC hc k hk) hn hfit
  have n0 : 0 < n := (hA.2.2 n).1 (by rw [hs]; omega)
  refine W.putFinK fx.1 fx.2.1 fx.2.2.2.1 (fx.2.2.2.2.1 _ lk) hi hst hcf hin (by rw [q2]; exact h6) q1 q3 (by rw [hsl]; exact k2_hasslot (q4 k hk)) rfl rfl hd fun H' e1 e2 e3 => ?_
  rw [hsl] at e1
  refine kk H' _ la (hA.put (n := n) (by rw [hs]; omega) hSm hZ ho ?_ e2 e3) (hS.put e2 e3 (am_rho_b n0)) hl
  refine ⟨fun _ => n0, fun _ => ?_, ?_, ?_, ?_, ?_⟩
  · rw [hSm n, hs]
    refine t_OB.to (V := updV (am_fv E μ n) k (am_tr E w)) ⟨_, e1, q2, q3, t_set q4 hap hk _⟩ (fun j _ => ?_)
    rw [hv j]
    rfl
  all_goals (rw [hSm n, hs]; intro h; omega)
theorem am_putFI (fx : am_F E C cc own nL ret R) (hin : (cx_M C).name = "<init>") {n ci k idx : Nat} {x : Int32} (hd : decode cc pc = .ok (.putfield idx, 3)) (lk : Cond.fieldLink own idx ((am_cl ci).2.1 k).1 ((am_cl ci).2.1 k).2.1 ((am_cl ci).2.1 k).2.2.1 ∈ am_G) (hc : ci < 8) (hk : k < (am_cl ci).2.2) (hfin : ((am_cl ci).2.1 k).2.2.2 = true) (hdecl : ((am_cl ci).2.1 k).1 = own) (ht : am_ty ci k = .int) (hs : (mm_S μ n).1 = ci) (kk : am_W E C Q (mm_sI μ n k x) cl sl (pc + 3) ls st) : am_W E C Q μ cl sl pc ls (.int x :: .ref n :: st) :=
  am_putFV fx hin (w := .int x) (μ' := mm_sI μ n k x) hd lk hc hk hfin hdecl hs (by rw [ht]; rfl) (by rw [ht]; rfl) (fun _ => rfl) rfl am_oI (am_fv_sI (by rw [hs]; exact ht)) kk
theorem am_putFR (fx : am_F E C cc own nL ret R) (hin : (cx_M C).name = "<init>") {n ci k idx : Nat} {a : Nat} (hd : decode cc pc = .ok (.putfield idx, 3)) (lk : Cond.fieldLink own idx ((am_cl ci).2.1 k).1 ((am_cl ci).2.1 k).2.1 ((am_cl ci).2.1 k).2.2.1 ∈ am_G) (hc : ci < 8) (hk : k < (am_cl ci).2.2) (hfin : ((am_cl ci).2.1 k).2.2.2 = true) (hdecl : ((am_cl ci).2.1 k).1 = own) (ht : am_isR (am_ty ci k) = true) (hs : (mm_S μ n).1 = ci) (kk : am_W E C Q (mm_sR μ n k (some a)) cl sl (pc + 3) ls st) : am_W E C Q μ cl sl pc ls (.ref a :: .ref n :: st) :=
  am_putFV fx hin (w := .ref a) (μ' := mm_sR μ n k (some a)) hd lk hc hk hfin hdecl hs (by revert ht; generalize am_ty ci k = t; intro ht; cases t <;> first | rfl | (cases ht)) (by revert ht; generalize am_ty ci k = t; intro ht; cases t <;> first | rfl | (cases ht)) (fun _ => rfl) rfl am_oR (am_fv_sR (by rw [hs]; exact ht)) kk
-- arrays
theorem am_iald (fx : am_F E C cc own nL ret R) {a N j : Nat} {x v : Int32} (hd : decode cc pc = .ok (.iaload, 1)) (hs : mm_S μ a = (8, N)) (hx : x = nI j) (hj : j < N) (hN : N < 2 ^ 31) (hv : mm_I μ a j = v) (kk : am_W E C Q μ cl sl (pc + 1) ls (.int v :: st)) : am_W E C Q μ cl sl pc ls (.int x :: .ref a :: st) := by
  intro H locs la hA hS hl
  subst hx; subst hv
  have hc := (hA.2.2 a).2.2.1 (by rw [hs])
  rw [hs] at hc
  exact W.iald fx.1 fx.2.1 hc ((fx.2.2.2.2.2.1.1.2 0 _ rfl).1 N _) (fun q => by cases q) (by rw [arrV_size]; exact vp_in_nI hj hN) (by rw [nI_clamp (by omega), arrV_read _ _ hj]; rfl) rfl rfl hd (kk H locs la hA hS hl)
theorem am_lald (fx : am_F E C cc own nL ret R) {a N j : Nat} {x : Int32} {v : Int64} (hd : decode cc pc = .ok (.laload, 1)) (hs : mm_S μ a = (9, N)) (hx : x = nI j) (hj : j < N) (hN : N < 2 ^ 31) (hv : mm_L μ a j = v) (kk : am_W E C Q μ cl sl (pc + 1) ls (.long v :: st)) : am_W E C Q μ cl sl pc ls (.int x :: .ref a :: st) := by
  intro H locs la hA hS hl
  subst hx; subst hv
  have hc := (hA.2.2 a).2.2.2.1 (by rw [hs])
  rw [hs] at hc
  exact W.lald fx.1 fx.2.1 hc ((fx.2.2.2.2.2.1.1.2 1 _ rfl).1 N _) (fun q => by cases q) (by rw [arrV_size]; exact vp_in_nI hj hN) (by rw [nI_clamp (by omega), arrV_read _ _ hj]; rfl) rfl rfl hd (kk H locs la hA hS hl)
theorem am_zald (fx : am_F E C cc own nL ret R) {a N j : Nat} {x v : Int32} (hd : decode cc pc = .ok (.baload, 1)) (hs : mm_S μ a = (10, N)) (hx : x = nI j) (hj : j < N) (hN : N < 2 ^ 31) (hv : mm_I μ a j = v) (kk : am_W E C Q μ cl sl (pc + 1) ls (.int v :: st)) : am_W E C Q μ cl sl pc ls (.int x :: .ref a :: st) := by
  intro H locs la hA hS hl
  subst hx; subst hv
  have hc := (hA.2.2 a).2.2.2.2.1 (by rw [hs])
  rw [hs] at hc
  exact W.zald fx.1 fx.2.1 hc ((fx.2.2.2.2.2.1.1.2 2 _ rfl).1 N _) (fun q => by cases q) (by rw [arrV_size]; exact vp_in_nI hj hN) (by rw [nI_clamp (by omega), arrV_read _ _ hj]; rfl) rfl rfl hd (kk H locs la hA hS hl)
theorem am_aald (fx : am_F E C cc own nL ret R) {a N j r : Nat} {x : Int32} (hd : decode cc pc = .ok (.aaload, 1)) (hs : mm_S μ a = (11, N)) (hx : x = nI j) (hj : j < N) (hN : N < 2 ^ 31) (hv : mm_R μ a j = some r) (kk : am_W E C Q μ cl sl (pc + 1) ls (.ref r :: st)) : am_W E C Q μ cl sl pc ls (.int x :: .ref a :: st) := by
  intro H locs la hA hS hl
  subst hx
  have hc := (hA.2.2 a).2.2.2.2.2 (by rw [hs])
  rw [hs] at hc
  exact W.aald (v := .ref (am_rho E r)) fx.1 fx.2.1 hc ((fx.2.2.2.2.2.1.1.2 3 _ rfl).1 N _) rfl (fun q => by cases q) (by rw [arrV_size]; exact vp_in_nI hj hN) (by rw [nI_clamp (by omega), arrV_read _ _ hj, hv]; rfl) rfl rfl hd (kk H locs la hA hS hl)
theorem am_alen (fx : am_F E C cc own nL ret R) {a N kd : Nat} {v : Int32} (hd : decode cc pc = .ok (.arraylength, 1)) (hs : mm_S μ a = (kd, N)) (hk : kd = 8 ∨ kd = 9 ∨ kd = 10 ∨ kd = 11) (hv : nI N = v) (kk : am_W E C Q μ cl sl (pc + 1) ls (.int v :: st)) : am_W E C Q μ cl sl pc ls (.ref a :: st) := by
  intro H locs la hA hS hl
  subst hv
  rcases hk with rfl | rfl | rfl | rfl
  · have hc := (hA.2.2 a).2.2.1 (by rw [hs])
    rw [hs] at hc
    exact W.alen fx.1 fx.2.1 hc ((fx.2.2.2.2.2.1.1.2 0 _ rfl).1 N _) (by rw [arrV_size] <;> rfl) rfl rfl hd (kk H locs la hA hS hl)
  · have hc := (hA.2.2 a).2.2.2.1 (by rw [hs])
    rw [hs] at hc
    exact W.alen fx.1 fx.2.1 hc ((fx.2.2.2.2.2.1.1.2 1 _ rfl).1 N _) (by rw [arrV_size] <;> rfl) rfl rfl hd (kk H locs la hA hS hl)
  · have hc := (hA.2.2 a).2.2.2.2.1 (by rw [hs])
    rw [hs] at hc
    exact W.alen fx.1 fx.2.1 hc ((fx.2.2.2.2.2.1.1.2 2 _ rfl).1 N _) (by rw [arrV_size] <;> rfl) rfl rfl hd (kk H locs la hA hS hl)
  · have hc := (hA.2.2 a).2.2.2.2.2 (by rw [hs])
    rw [hs] at hc
    exact W.alen fx.1 fx.2.1 hc ((fx.2.2.2.2.2.1.1.2 3 _ rfl).1 N _) (by rw [arrV_size] <;> rfl) rfl rfl hd (kk H locs la hA hS hl)
theorem am_iast (fx : am_F E C cc own nL ret R) {a N j : Nat} {x y : Int32} (hd : decode cc pc = .ok (.iastore, 1)) (hs : mm_S μ a = (8, N)) (hx : x = nI j) (hj : j < N) (hN : N < 2 ^ 31) (kk : am_W E C Q (mm_sI μ a j y) cl sl (pc + 1) ls st) : am_W E C Q μ cl sl pc ls (.int y :: .int x :: .ref a :: st) := by
  intro H locs la hA hS hl
  subst hx
  have hc := (hA.2.2 a).2.2.1 (by rw [hs])
  rw [hs] at hc
  have n0 : 0 < a := (hA.2.2 a).1 (by rw [hs]; simp)
  refine W.iast fx.1 fx.2.1 hc ((fx.2.2.2.2.2.1.1.2 0 _ rfl).1 N _) (fun q => by cases q) (by rw [arrV_size]; exact vp_in_nI hj hN) rfl rfl hd fun H1 e z oq => ?_
  refine kk H1 _ la (hA.put (n := a) (by rw [hs]; simp) (fun _ => rfl) rfl am_oI ?_ z oq) (hS.put z oq (am_rho_b n0)) hl
  refine ⟨fun _ => n0, ?_, ?_, ?_, ?_, ?_⟩ <;> rw [mS_sI, hs]
  · intro h; exact absurd h (by simp)
  · intro _
    rw [e, arrV_store, nI_clamp (by omega)]
    congr 2
    funext q
    by_cases hq : q = j <;> simp [updV, mI_sI, hq]
  all_goals (intro h; exact absurd h (by simp))
theorem am_last (fx : am_F E C cc own nL ret R) {a N j : Nat} {x : Int32} {y : Int64} (hd : decode cc pc = .ok (.lastore, 1)) (hs : mm_S μ a = (9, N)) (hx : x = nI j) (hj : j < N) (hN : N < 2 ^ 31) (kk : am_W E C Q (mm_sL μ a j y) cl sl (pc + 1) ls st) : am_W E C Q μ cl sl pc ls (.long y :: .int x :: .ref a :: st) := by
  intro H locs la hA hS hl
  subst hx
  have hc := (hA.2.2 a).2.2.2.1 (by rw [hs])
  rw [hs] at hc
  have n0 : 0 < a := (hA.2.2 a).1 (by rw [hs]; simp)
  refine W.last fx.1 fx.2.1 hc ((fx.2.2.2.2.2.1.1.2 1 _ rfl).1 N _) (fun q => by cases q) (by rw [arrV_size]; exact vp_in_nI hj hN) rfl rfl hd fun H1 e z oq => ?_
  refine kk H1 _ la (hA.put (n := a) (by rw [hs]; simp) (fun _ => rfl) rfl am_oL ?_ z oq) (hS.put z oq (am_rho_b n0)) hl
  refine ⟨fun _ => n0, ?_, ?_, ?_, ?_, ?_⟩ <;> rw [mS_sL, hs]
  · intro h; exact absurd h (by simp)
  · intro h; exact absurd h (by simp)
  · intro _
    rw [e, arrV_store, nI_clamp (by omega)]
    congr 2
    funext q
    by_cases hq : q = j <;> simp [updV, mL_sL, hq]
  all_goals (intro h; exact absurd h (by simp))
theorem am_zast (fx : am_F E C cc own nL ret R) {a N j : Nat} {x y : Int32} (hd : decode cc pc = .ok (.bastore, 1)) (hs : mm_S μ a = (10, N)) (hx : x = nI j) (hj : j < N) (hN : N < 2 ^ 31) (hy : y = 0 ∨ y = 1) (kk : am_W E C Q (mm_sI μ a j y) cl sl (pc + 1) ls st) : am_W E C Q μ cl sl pc ls (.int y :: .int x :: .ref a :: st) := by
  intro H locs la hA hS hl
  subst hx
  have hc := (hA.2.2 a).2.2.2.2.1 (by rw [hs])
  rw [hs] at hc
  have n0 : 0 < a := (hA.2.2 a).1 (by rw [hs]; simp)
  have hy2 : narrow .boolean (.int y) = .int y := by rcases hy with rfl | rfl <;> rfl
  refine W.zast fx.1 fx.2.1 hc ((fx.2.2.2.2.2.1.1.2 2 _ rfl).1 N _) (fun q => by cases q) (by rw [arrV_size]; exact vp_in_nI hj hN) rfl rfl hd fun H1 e z oq => ?_
  refine kk H1 _ la (hA.put (n := a) (by rw [hs]; simp) (fun _ => rfl) rfl am_oI ?_ z oq) (hS.put z oq (am_rho_b n0)) hl
  refine ⟨fun _ => n0, ?_, ?_, ?_, ?_, ?_⟩ <;> rw [mS_sI, hs]
  · intro h; exact absurd h (by simp)
  · intro h; exact absurd h (by simp)
  · intro h; exact absurd h (by simp)
  · intro _
    rw [e, arrV_store, nI_clamp (by omega)]
    congr 2
    funext q
    by_cases hq : q = j
    · subst hq
      simp [updV, mI_sI, hy2]
    · simp [updV, mI_sI, hq]
  · intro h; exact absurd h (by simp)
end AMI
