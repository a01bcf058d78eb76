/-! the abstract memory: names of cells are numbers (0: the script; n + 1: the n-th cell made since the law began); what each holds stands in typed functions -/
abbrev am_E : Type := Launch × (Nat × Nat) × va_G × (Nat → ClassId)
def am_rho (E : am_E) : Nat → Nat
  | 0 => E.2.1.1
  | n + 1 => E.2.1.2 + n
abbrev am_M : Type := (Nat → Nat × Nat) × (Nat → Nat → Int32) × (Nat → Nat → Int64) × (Nat → Nat → Option Nat) × Nat
def mm_S (μ : am_M) (n : Nat) : Nat × Nat := μ.1 n
def mm_I (μ : am_M) (n k : Nat) : Int32 := μ.2.1 n k
def mm_L (μ : am_M) (n k : Nat) : Int64 := μ.2.2.1 n k
def mm_R (μ : am_M) (n k : Nat) : Option Nat := μ.2.2.2.1 n k
def mm_Z (μ : am_M) : Nat := μ.2.2.2.2
def mm_sI (μ : am_M) (a k : Nat) (v : Int32) : am_M := (μ.1, fun a' k' => if a' = a ∧ k' = k then v else μ.2.1 a' k', μ.2.2.1, μ.2.2.2.1, μ.2.2.2.2)
def mm_sL (μ : am_M) (a k : Nat) (v : Int64) : am_M := (μ.1, μ.2.1, fun a' k' => if a' = a ∧ k' = k then v else μ.2.2.1 a' k', μ.2.2.2.1, μ.2.2.2.2)
def mm_sR (μ : am_M) (a k : Nat) (v : Option Nat) : am_M := (μ.1, μ.2.1, μ.2.2.1, fun a' k' => if a' = a ∧ k' = k then v else μ.2.2.2.1 a' k', μ.2.2.2.2)
def mm_nw (μ : am_M) (kd len : Nat) : am_M := (fun a => if a = μ.2.2.2.2 then (kd, len) else μ.1 a, fun a k => if a = μ.2.2.2.2 then 0 else μ.2.1 a k, fun a k => if a = μ.2.2.2.2 then 0 else μ.2.2.1 a k, fun a k => if a = μ.2.2.2.2 then none else μ.2.2.2.1 a k, μ.2.2.2.2 + 1)
def mm_gr (μ : am_M) (n k : Nat) : am_M := (fun a => if a = μ.2.2.2.2 then (11, n) else if μ.2.2.2.2 < a ∧ a ≤ μ.2.2.2.2 + n then (8, k) else μ.1 a, fun a j => if μ.2.2.2.2 < a ∧ a ≤ μ.2.2.2.2 + n then 0 else μ.2.1 a j, μ.2.2.1, fun a j => if a = μ.2.2.2.2 then (if j < n then some (μ.2.2.2.2 + 1 + j) else none) else μ.2.2.2.1 a j, μ.2.2.2.2 + 1 + n)
-- what is read behind what was written
theorem mS_sI (μ : am_M) (a k : Nat) (v : Int32) : mm_S (mm_sI μ a k v) = mm_S μ := rfl
theorem mS_sL (μ : am_M) (a k : Nat) (v : Int64) : mm_S (mm_sL μ a k v) = mm_S μ := rfl
theorem mS_sR (μ : am_M) (a k : Nat) (v : Option Nat) : mm_S (mm_sR μ a k v) = mm_S μ := rfl
theorem mI_sL (μ : am_M) (a k : Nat) (v : Int64) : mm_I (mm_sL μ a k v) = mm_I μ := rfl
theorem mI_sR (μ : am_M) (a k : Nat) (v : Option Nat) : mm_I (mm_sR μ a k v) = mm_I μ := rfl
theorem mL_sI (μ : am_M) (a k : Nat) (v : Int32) : mm_L (mm_sI μ a k v) = mm_L μ := rfl
theorem mL_sR (μ : am_M) (a k : Nat) (v : Option Nat) : mm_L (mm_sR μ a k v) = mm_L μ := rfl
theorem mR_sI (μ : am_M) (a k : Nat) (v : Int32) : mm_R (mm_sI μ a k v) = mm_R μ := rfl
theorem mR_sL (μ : am_M) (a k : Nat) (v : Int64) : mm_R (mm_sL μ a k v) = mm_R μ := rfl
theorem mZ_sI (μ : am_M) (a k : Nat) (v : Int32) : mm_Z (mm_sI μ a k v) = mm_Z μ := rfl
theorem mZ_sL (μ : am_M) (a k : Nat) (v : Int64) : mm_Z (mm_sL μ a k v) = mm_Z μ := rfl
theorem mZ_sR (μ : am_M) (a k : Nat) (v : Option Nat) : mm_Z (mm_sR μ a k v) = mm_Z μ := rfl
theorem mI_sI (μ : am_M) (a k : Nat) (v : Int32) (a' k' : Nat) : mm_I (mm_sI μ a k v) a' k' = if a' = a ∧ k' = k then v else mm_I μ a' k' := rfl
theorem mL_sL (μ : am_M) (a k : Nat) (v : Int64) (a' k' : Nat) : mm_L (mm_sL μ a k v) a' k' = if a' = a ∧ k' = k then v else mm_L μ a' k' := rfl
theorem mR_sR (μ : am_M) (a k : Nat) (v : Option Nat) (a' k' : Nat) : mm_R (mm_sR μ a k v) a' k' = if a' = a ∧ k' = k then v else mm_R μ a' k' := rfl
theorem mI_same (μ : am_M) (a k : Nat) (v : Int32) : mm_I (mm_sI μ a k v) a k = v := by simp [mI_sI]
theorem mI_ne {μ : am_M} {a k a' k' : Nat} {v : Int32} (h : a' ≠ a ∨ k' ≠ k) : mm_I (mm_sI μ a k v) a' k' = mm_I μ a' k' := by
  rw [mI_sI, if_neg]; rintro ⟨rfl, rfl⟩; rcases h with h | h <;> exact h rfl
theorem mL_same (μ : am_M) (a k : Nat) (v : Int64) : mm_L (mm_sL μ a k v) a k = v := by simp [mL_sL]
theorem mL_ne {μ : am_M} {a k a' k' : Nat} {v : Int64} (h : a' ≠ a ∨ k' ≠ k) : mm_L (mm_sL μ a k v) a' k' = mm_L μ a' k' := by
  rw [mL_sL, if_neg]; rintro ⟨rfl, rfl⟩; rcases h with h | h <;> exact h rfl
theorem mS_nw (μ : am_M) (kd len a : Nat) : mm_S (mm_nw μ kd len) a = if a = mm_Z μ then (kd, len) else mm_S μ a := rfl
theorem mI_nw (μ : am_M) (kd len a k : Nat) : mm_I (mm_nw μ kd len) a k = if a = mm_Z μ then 0 else mm_I μ a k := rfl
theorem mL_nw (μ : am_M) (kd len a k : Nat) : mm_L (mm_nw μ kd len) a k = if a = mm_Z μ then 0 else mm_L μ a k := rfl
theorem mR_nw (μ : am_M) (kd len a k : Nat) : mm_R (mm_nw μ kd len) a k = if a = mm_Z μ then none else mm_R μ a k := rfl
theorem mZ_nw (μ : am_M) (kd len : Nat) : mm_Z (mm_nw μ kd len) = mm_Z μ + 1 := rfl
theorem mS_gr (μ : am_M) (n k a : Nat) : mm_S (mm_gr μ n k) a = if a = mm_Z μ then (11, n) else if mm_Z μ < a ∧ a ≤ mm_Z μ + n then (8, k) else mm_S μ a := rfl
theorem mI_gr (μ : am_M) (n k a j : Nat) : mm_I (mm_gr μ n k) a j = if mm_Z μ < a ∧ a ≤ mm_Z μ + n then 0 else mm_I μ a j := rfl
theorem mL_gr (μ : am_M) (n k : Nat) : mm_L (mm_gr μ n k) = mm_L μ := rfl
theorem mR_gr (μ : am_M) (n k a j : Nat) : mm_R (mm_gr μ n k) a j = if a = mm_Z μ then (if j < n then some (mm_Z μ + 1 + j) else none) else mm_R μ a j := rfl
theorem mZ_gr (μ : am_M) (n k : Nat) : mm_Z (mm_gr μ n k) = mm_Z μ + 1 + n := rfl
-- values by names, values by addresses
def am_tr (E : am_E) : Value → Value
  | .ref a => .ref (am_rho E a)
  | v => v
theorem am_tr_cat (E : am_E) (v : Value) : (am_tr E v).category = v.category := by cases v <;> rfl
def am_ty : Nat → Nat → FieldType := fun ci => match ci with
  | 0 => tyX0
  | 1 => tyX1
  | 2 => tyX2
  | 3 => tyX3
  | 4 => tyX4
  | 5 => tyX5
  | 6 => tyX6
  | _ => tyX7
def am_cl : Nat → vw_C := fun ci => match ci with
  | 0 => (RX0, TX0, 6)
  | 1 => (RX1, TX1, 7)
  | 2 => (RX2, TX2, 15)
  | 3 => (RX3, TX3, 6)
  | 4 => (RX4, TX4, 7)
  | 5 => (RX5, TX5, 6)
  | 6 => (RX6, TX6, 5)
  | _ => (RX7, TX7, 34)
theorem am_cl_at {ci : Nat} (h : ci < 8) : vwCl[ci]? = some (am_cl ci) := by
  rcases (show ci = 0 ∨ ci = 1 ∨ ci = 2 ∨ ci = 3 ∨ ci = 4 ∨ ci = 5 ∨ ci = 6 ∨ ci = 7 by omega) with rfl | rfl | rfl | rfl | rfl | rfl | rfl | rfl <;> rfl
def am_fv (E : am_E) (μ : am_M) (n j : Nat) : Value := match am_ty (mm_S μ n).1 j with
  | .int => .int (mm_I μ n j)
  | .long => .long (mm_L μ n j)
  | _ => va_rf ((mm_R μ n j).map (am_rho E))
def am_at (E : am_E) (μ : am_M) (H : Heap) (n : Nat) : Prop :=
  ((mm_S μ n).1 < 12 → 0 < n) ∧
  ((mm_S μ n).1 < 8 → t_OB (am_rho E n) (E.2.2.1.1 (mm_S μ n).1) (am_cl (mm_S μ n).1).2.2 (E.2.2.1.2 (mm_S μ n).1) H (am_fv E μ n)) ∧
  ((mm_S μ n).1 = 8 → H[am_rho E n]? = some (arrV (E.2.2.2 0) (mm_S μ n).2 (fun j => .int (mm_I μ n j)))) ∧
  ((mm_S μ n).1 = 9 → H[am_rho E n]? = some (arrV (E.2.2.2 1) (mm_S μ n).2 (fun j => .long (mm_L μ n j)))) ∧
  ((mm_S μ n).1 = 10 → H[am_rho E n]? = some (arrV (E.2.2.2 2) (mm_S μ n).2 (fun j => .int (mm_I μ n j)))) ∧
  ((mm_S μ n).1 = 11 → H[am_rho E n]? = some (arrV (E.2.2.2 3) (mm_S μ n).2 (fun j => va_rf ((mm_R μ n j).map (am_rho E)))))
def am_Ag (E : am_E) (μ : am_M) (H : Heap) : Prop := H.size = am_rho E (mm_Z μ) ∧ 0 < mm_Z μ ∧ ∀ n, am_at E μ H n
theorem am_rho_inj {E : am_E} {a b : Nat} (ha : 0 < a) (hb : 0 < b) (h : am_rho E a = am_rho E b) : a = b := by
  obtain ⟨a, rfl⟩ : ∃ x, a = x + 1 := ⟨a - 1, by omega⟩
  obtain ⟨b, rfl⟩ : ∃ x, b = x + 1 := ⟨b - 1, by omega⟩
  simp only [am_rho] at h
  omega
theorem am_rho_b {E : am_E} {a : Nat} (ha : 0 < a) : E.2.1.2 ≤ am_rho E a := by
  obtain ⟨a, rfl⟩ : ∃ x, a = x + 1 := ⟨a - 1, by omega⟩
  simp only [am_rho]
  omega
theorem am_rho_lt {E : am_E} {a b : Nat} (ha : 0 < a) (hb : 0 < b) : am_rho E a < am_rho E b ↔ a < b := by
  obtain ⟨a, rfl⟩ : ∃ x, a = x + 1 := ⟨a - 1, by omega⟩
  obtain ⟨b, rfl⟩ : ∃ x, b = x + 1 := ⟨b - 1, by omega⟩
  simp only [am_rho]
  omega
theorem am_rho_add {E : am_E} {a k : Nat} (ha : 0 < a) : am_rho E (a + k) = am_rho E a + k := by
  obtain ⟨a, rfl⟩ : ∃ x, a = x + 1 := ⟨a - 1, by omega⟩
  rw [show a + 1 + k = (a + k) + 1 by omega]
  simp only [am_rho]
  omega
/-- a cell with a shape lies in the heap -/
theorem am_lt {E : am_E} {μ : am_M} {H : Heap} (h : am_Ag E μ H) {n : Nat} (hn : (mm_S μ n).1 < 12) : n < mm_Z μ := by
  obtain ⟨h1, h2, h3⟩ := h
  obtain ⟨g0, g1, g2, g3, g4, g5⟩ := h3 n
  rw [← am_rho_lt (g0 hn) h2, ← h1]
  rcases (show (mm_S μ n).1 < 8 ∨ (mm_S μ n).1 = 8 ∨ (mm_S μ n).1 = 9 ∨ (mm_S μ n).1 = 10 ∨ (mm_S μ n).1 = 11 by omega) with h | h | h | h | h
  · obtain ⟨cell, q1, -⟩ := g1 h
    exact (Array.getElem?_eq_some_iff.mp q1).1
  · exact (Array.getElem?_eq_some_iff.mp (g2 h)).1
  · exact (Array.getElem?_eq_some_iff.mp (g3 h)).1
  · exact (Array.getElem?_eq_some_iff.mp (g4 h)).1
  · exact (Array.getElem?_eq_some_iff.mp (g5 h)).1
theorem am_at.kept {E : am_E} {μ μ' : am_M} {H H1 : Heap} {n : Nat} (h : am_at E μ H n) (hS : mm_S μ' n = mm_S μ n) (hI : ∀ k, mm_I μ' n k = mm_I μ n k) (hL : ∀ k, mm_L μ' n k = mm_L μ n k) (hR : ∀ k, mm_R μ' n k = mm_R μ n k) (hq : (mm_S μ n).1 < 12 → H1[am_rho E n]? = H[am_rho E n]?) : am_at E μ' H1 n := by
  obtain ⟨g0, g1, g2, g3, g4, g5⟩ := h
  have hfv : am_fv E μ' n = am_fv E μ n := by funext j; simp only [am_fv, hS, hI, hL, hR]
  refine ⟨?_, ?_, ?_, ?_, ?_, ?_⟩ <;> rw [hS]
  · exact g0
  · intro h; rw [hfv]; exact (g1 h).kept (hq (by omega))
  · intro h; rw [hq (by omega), g2 h]; simp only [hI]
  · intro h; rw [hq (by omega), g3 h]; simp only [hL]
  · intro h; rw [hq (by omega), g4 h]; simp only [hI]
  · intro h; rw [hq (by omega), g5 h]; simp only [hR]
-- locals
def am_ls (E : am_E) (la : Array Slot) (nL : Nat) (ls : List (Option Value)) : Prop := la.size = nL ∧ lv_wf la ∧ ∀ (i : Nat) (v : Value), ls[i]? = some (some v) → la[i]? = some (.val (am_tr E v))
def am_pr (E : am_E) (ls : List (Option Value)) : List (Nat × Value) := (List.range ls.length).filterMap (fun j => match ls[j]? with
  | some (some v) => some (j, am_tr E v)
  | _ => none)
theorem am_pr_in {E : am_E} {ls : List (Option Value)} {j : Nat} {v : Value} (h : ls[j]? = some (some v)) : (j, am_tr E v) ∈ am_pr E ls := by
  refine List.mem_filterMap.mpr ⟨j, List.mem_range.mpr (List.getElem?_eq_some_iff.mp h).1, ?_⟩
  rw [h]
theorem am_pr_of {E : am_E} {ls : List (Option Value)} {q : Nat × Value} (h : q ∈ am_pr E ls) : ∃ v, ls[q.1]? = some (some v) ∧ q.2 = am_tr E v := by
  obtain ⟨j, -, hj⟩ := List.mem_filterMap.mp h
  split at hj
  · rename_i v hv
    cases hj
    exact ⟨v, hv, rfl⟩
  · cases hj
theorem am_ls.has {E : am_E} {la : Array Slot} {nL : Nat} {ls : List (Option Value)} (h : am_ls E la nL ls) : lv_has la nL (am_pr E ls) := by
  refine ⟨h.1, h.2.1, fun q hq => ?_⟩
  obtain ⟨v, h1, h2⟩ := am_pr_of hq
  rw [h2]
  exact h.2.2 _ _ h1
def am_ok1 (ls : List (Option Value)) (i : Nat) : Bool := match i with
  | 0 => true
  | i + 1 => match ls[i]? with
    | some (some v) => v.category == 1
    | _ => true
theorem am_ok1_spec {ls : List (Option Value)} {i j : Nat} {v : Value} (h : am_ok1 ls i = true) (hj : ls[j]? = some (some v)) : ¬ (j + 1 = i ∧ v.category = 2) := by
  rintro ⟨rfl, hc⟩
  simp only [am_ok1, hj] at h
  rw [hc] at h
  cases h
theorem am_ls.st1 {E : am_E} {la' : Array Slot} {nL i : Nat} {ls : List (Option Value)} {v : Value} {lv' : List (Nat × Value)} (hk : am_ok1 ls i = true) (hl : (i, am_tr E v) :: (am_pr E ls).filter (fun q => !(q.1 == i) && !(q.1 + 1 == i && q.2.category == 2)) = lv') (h : lv_has la' nL lv') : am_ls E la' nL (ls.set i (some v)) := by
  subst hl
  refine ⟨h.1, h.2.1, fun j w hj => ?_⟩
  by_cases hij : i = j
  · subst hij
    have hlt : i < ls.length := by
      have := (List.getElem?_eq_some_iff.mp hj).1
      simpa using this
    rw [List.getElem?_set_self hlt] at hj
    cases hj
    exact h.2.2 _ List.mem_cons_self
  · rw [List.getElem?_set_ne hij] at hj
    refine h.2.2 (j, am_tr E w) (List.mem_cons_of_mem _ (List.mem_filter.mpr ⟨am_pr_in hj, ?_⟩))
    have h2 := am_ok1_spec hk hj
    rw [← am_tr_cat E w] at h2
    have h3 : ¬ j = i := fun e => hij e.symm
    by_cases h4 : j + 1 = i
    · have h5 : ¬ (am_tr E w).category = 2 := fun e => h2 ⟨h4, e⟩
      simp [h3, h4, h5]
    · simp [h3, h4]
theorem am_ls.st2 {E : am_E} {la' : Array Slot} {nL i : Nat} {ls : List (Option Value)} {v : Value} {lv' : List (Nat × Value)} (hk : am_ok1 ls i = true) (hl : (i, am_tr E v) :: (am_pr E ls).filter (fun q => !(q.1 == i) && (!(q.1 == i + 1) && !(q.1 + 1 == i && q.2.category == 2))) = lv') (h : lv_has la' nL lv') : am_ls E la' nL ((ls.set i (some v)).set (i + 1) none) := by
  subst hl
  refine ⟨h.1, h.2.1, fun j w hj => ?_⟩
  by_cases h1 : i + 1 = j
  · subst h1
    have hlt : i + 1 < (ls.set i (some v)).length := (by simpa using (List.getElem?_eq_some_iff.mp hj).1)
    rw [List.getElem?_set_self hlt] at hj
    cases hj
  · rw [List.getElem?_set_ne h1] at hj
    by_cases hij : i = j
    · subst hij
      have hlt : i < ls.length := by
        have := (List.getElem?_eq_some_iff.mp hj).1
        simpa using this
      rw [List.getElem?_set_self hlt] at hj
      cases hj
      exact h.2.2 _ List.mem_cons_self
    · rw [List.getElem?_set_ne hij] at hj
      refine h.2.2 (j, am_tr E w) (List.mem_cons_of_mem _ (List.mem_filter.mpr ⟨am_pr_in hj, ?_⟩))
      have h2 := am_ok1_spec hk hj
      rw [← am_tr_cat E w] at h2
      have h3 : ¬ j = i := fun e => hij e.symm
      have h6 : ¬ j = i + 1 := fun e => h1 e.symm
      by_cases h4 : j + 1 = i
      · have h5 : ¬ (am_tr E w).category = 2 := fun e => h2 ⟨h4, e⟩
        simp [h3, h4, h5, h6]
      · simp [h3, h4, h6]
/-- fewer locals known -/
def am_keep : List (Option Value) → List Bool → List (Option Value)
  | x :: xs, true :: bs => x :: am_keep xs bs
  | _ :: xs, false :: bs => none :: am_keep xs bs
  | _, _ => []
theorem am_keep_at : ∀ (ls : List (Option Value)) (bs : List Bool) (i : Nat) (v : Value), (am_keep ls bs)[i]? = some (some v) → ls[i]? = some (some v)
  | [], [], i, v, h => by simp [am_keep] at h
  | [], _ :: _, i, v, h => by simp [am_keep] at h
  | _ :: _, [], i, v, h => by simp [am_keep] at h
  | x :: xs, true :: bs, 0, v, h => by simpa [am_keep] using h
  | x :: xs, true :: bs, i + 1, v, h => by
    simp only [am_keep, List.getElem?_cons_succ] at h ⊢
    exact am_keep_at xs bs i v h
  | x :: xs, false :: bs, 0, v, h => by simp [am_keep] at h
  | x :: xs, false :: bs, i + 1, v, h => by
    simp only [am_keep, List.getElem?_cons_succ] at h ⊢
    exact am_keep_at xs bs i v h
