/-! the rules that speak of cells -/
theorem am_inC {ci : Nat} (h : ci < 8) : ∀ w ∈ u_ws (am_cl ci).1 (am_cl ci).2.1 (am_cl ci).2.2, w ∈ am_G := by
  rcases (show ci = 0 ∨ ci = 1 ∨ ci = 2 ∨ ci = 3 ∨ ci = 4 ∨ ci = 5 ∨ ci = 6 ∨ ci = 7 by omega) with rfl | rfl | rfl | rfl | rfl | rfl | rfl | rfl <;> decide +kernel
theorem am_tyC {ci : Nat} (h : ci < 8) : ∀ k, k < (am_cl ci).2.2 → parseFieldDescriptor ((am_cl ci).2.1 k).2.2.1 = some (am_ty ci k) := by
  rcases (show ci = 0 ∨ ci = 1 ∨ ci = 2 ∨ ci = 3 ∨ ci = 4 ∨ ci = 5 ∨ ci = 6 ∨ ci = 7 by omega) with rfl | rfl | rfl | rfl | rfl | rfl | rfl | rfl
  · exact tyX0_ok
  · exact tyX1_ok
  · exact tyX2_ok
  · exact tyX3_ok
  · exact tyX4_ok
  · exact tyX5_ok
  · exact tyX6_ok
  · exact tyX7_ok
theorem am_nmC {ci : Nat} (h : ci < 8) : ∀ a, a < (am_cl ci).2.2 → ∀ b, b < (am_cl ci).2.2 → a ≠ b → ((am_cl ci).2.1 a).2.1 ≠ ((am_cl ci).2.1 b).2.1 := by
  rcases (show ci = 0 ∨ ci = 1 ∨ ci = 2 ∨ ci = 3 ∨ ci = 4 ∨ ci = 5 ∨ ci = 6 ∨ ci = 7 by omega) with rfl | rfl | rfl | rfl | rfl | rfl | rfl | rfl
  · exact nmX0
  · exact nmX1
  · exact nmX2
  · exact nmX3
  · exact nmX4
  · exact nmX5
  · exact nmX6
  · exact nmX7
/-- entry idx of own's pool is field k of class ci -/
def am_lk (own : String) (idx ci k : Nat) : Prop := Cond.fieldLink own idx ((am_cl ci).2.1 k).1 ((am_cl ci).2.1 k).2.1 ((am_cl ci).2.1 k).2.2.1 ∈ am_G ∨ ∃ host, Cond.fieldLinkNest own idx ((am_cl ci).2.1 k).1 ((am_cl ci).2.1 k).2.1 ((am_cl ci).2.1 k).2.2.1 host ∈ am_N
theorem am_Ag.put {E : am_E} {μ μ' : am_M} {H H1 : Heap} {n : Nat} (h : am_Ag E μ H) (hn : (mm_S μ n).1 < 12) (hS : ∀ a, mm_S μ' a = mm_S μ a) (hZ : mm_Z μ' = mm_Z μ) (ho : ∀ a, a ≠ n → ∀ k, mm_I μ' a k = mm_I μ a k ∧ mm_L μ' a k = mm_L μ a k ∧ mm_R μ' a k = mm_R μ a k) (hat : am_at E μ' H1 n) (hz : H1.size = H.size) (oq : ∀ q, q ≠ am_rho E n → H1[q]? = H[q]?) : am_Ag E μ' H1 := by
  refine ⟨by rw [hz, hZ]; exact h.1, by rw [hZ]; exact h.2.1, fun a => ?_⟩
  by_cases ha : a = n
  · subst ha; exact hat
  · exact (h.2.2 a).kept (hS a) (fun k => (ho a ha k).1) (fun k => (ho a ha k).2.1) (fun k => (ho a ha k).2.2) (fun h12 => oq _ (fun e => ha (am_rho_inj ((h.2.2 a).1 h12) ((h.2.2 n).1 hn) e)))
section AMH
variable {E : am_E} {C : am_C} {cc : ByteArray} {own : String} {nL : Nat} {ret : Option FieldType} {R : Room} {Q : State → Prop} {μ : am_M} {cl sl pc : Nat} {ls : List (Option Value)} {st : List Value}
theorem am_getV (fx : am_F E C cc own nL ret R) {n ci k idx : Nat} {w : Value} (hd : decode cc pc = .ok (.getfield idx, 3)) (lk : am_lk own idx ci k) (hc : ci < 8) (hk : k < (am_cl ci).2.2) (hs : (mm_S μ n).1 = ci) (hw : am_tr E w = am_fv E μ n k) (kk : am_W E C Q μ cl sl (pc + 3) ls (w :: st)) : am_W E C Q μ cl sl pc ls (.ref n :: st) := by
  intro H locs la hA hS hl
  have hat := (hA.2.2 n).2.1 (by rw [hs]; exact hc)
  rw [hs] at hat
  obtain ⟨cell, q1, q2, q3, q4⟩ := hat
  obtain ⟨hSl, hfc, kC, hkC, hkind⟩ := fx.2.2.2.2.2.1.1.1 ci _ (am_cl_at hc)
  obtain ⟨cf, kf, fi, f, hi, hsl⟩ := hSl k hk
  have hst := (u_facts hfc hkC (u_lays fx.2.2.2.2.1 (am_inC hc) hk) hi).1
  have hv : cell.slots[f.slot]? = some (am_tr E w) := by rw [hsl, q4 k hk, hw]
  rcases lk with hlk | ⟨host, hlk⟩
  · exact W.getf fx.1 fx.2.1 fx.2.2.2.1 (fx.2.2.2.2.1 _ hlk) hi hst q1 (by rw [q3]; exact fun h => by cases h) hv rfl rfl hd (kk H locs la hA hS hl)
  · exact va_Wgetf fx.1 fx.2.1 fx.2.2.2.1 (va_Nw.use rfl (fx.2.2.2.2.2.1.2.1 _ hlk)) hi hst q1 (by rw [q3]; exact fun h => by cases h) hv rfl rfl hd (kk H locs la hA hS hl)
theorem am_getI (fx : am_F E C cc own nL ret R) {n ci k idx : Nat} (hd : decode cc pc = .ok (.getfield idx, 3)) (lk : am_lk own idx ci k) (hc : ci < 8) (hk : k < (am_cl ci).2.2) (ht : am_ty ci k = .int) (hs : (mm_S μ n).1 = ci) {x : Int32} (hx : mm_I μ n k = x) (kk : am_W E C Q μ cl sl (pc + 3) ls (.int x :: st)) : am_W E C Q μ cl sl pc ls (.ref n :: st) :=
  am_getV fx hd lk hc hk hs (by simp only [am_fv, hs, ht, am_tr, hx]) kk
theorem am_getL (fx : am_F E C cc own nL ret R) {n ci k idx : Nat} (hd : decode cc pc = .ok (.getfield idx, 3)) (lk : am_lk own idx ci k) (hc : ci < 8) (hk : k < (am_cl ci).2.2) (ht : am_ty ci k = .long) (hs : (mm_S μ n).1 = ci) {x : Int64} (hx : mm_L μ n k = x) (kk : am_W E C Q μ cl sl (pc + 3) ls (.long x :: st)) : am_W E C Q μ cl sl pc ls (.ref n :: st) :=
  am_getV fx hd lk hc hk hs (by simp only [am_fv, hs, ht, am_tr, hx]) kk
def am_isR : FieldType → Bool
  | .object _ => true
  | .array _ => true
  | _ => false
theorem am_fvR {E : am_E} {μ : am_M} {n k : Nat} (ht : am_isR (am_ty (mm_S μ n).1 k) = true) : am_fv E μ n k = va_rf ((mm_R μ n k).map (am_rho E)) := by
  unfold am_fv
  revert ht
  generalize am_ty (mm_S μ n).1 k = t
  intro ht
  cases t <;> first | rfl | (cases ht)
theorem am_getR (fx : am_F E C cc own nL ret R) {n ci k idx : Nat} (hd : decode cc pc = .ok (.getfield idx, 3)) (lk : am_lk own idx ci k) (hc : ci < 8) (hk : k < (am_cl ci).2.2) (ht : am_isR (am_ty ci k) = true) (hs : (mm_S μ n).1 = ci) {a : Nat} (ha : mm_R μ n k = some a) (kk : am_W E C Q μ cl sl (pc + 3) ls (.ref a :: st)) : am_W E C Q μ cl sl pc ls (.ref n :: st) :=
  am_getV fx hd lk hc hk hs (by rw [am_fvR (by rw [hs]; exact ht), ha]; rfl) kk
theorem am_getN (fx : am_F E C cc own nL ret R) {n ci k idx : Nat} (hd : decode cc pc = .ok (.getfield idx, 3)) (lk : am_lk own idx ci k) (hc : ci < 8) (hk : k < (am_cl ci).2.2) (ht : am_isR (am_ty ci k) = true) (hs : (mm_S μ n).1 = ci) (ha : mm_R μ n k = none) (kk : am_W E C Q μ cl sl (pc + 3) ls (.null :: st)) : am_W E C Q μ cl sl pc ls (.ref n :: st) :=
  am_getV fx hd lk hc hk hs (by rw [am_fvR (by rw [hs]; exact ht), ha]; rfl) kk
theorem am_putV (fx : am_F E C cc own nL ret R) {n ci k idx : Nat} {w : Value} {μ' : am_M} (hd : decode cc pc = .ok (.putfield idx, 3)) (lk : am_lk own idx ci k) (hc : ci < 8) (hk : k < (am_cl ci).2.2) (hfin : ((am_cl ci).2.1 k).2.2.2 = false) (hs : (mm_S μ n).1 = ci) (hn : narrow (am_ty ci k) (am_tr E w) = am_tr E w) (hfit : fits (am_ty ci k) (am_tr E w) = true)
    (hSm : ∀ a, mm_S μ' a = mm_S μ a) (hZ : mm_Z μ' = mm_Z μ) (ho : ∀ a, a ≠ n → ∀ k, mm_I μ' a k = mm_I μ a k ∧ mm_L μ' a k = mm_L μ a k ∧ mm_R μ' a k = mm_R μ a k) (hv : ∀ j, am_fv E μ' n j = if j = k then am_tr E w else am_fv E μ n j) (kk : am_W E C Q μ' cl sl (pc + 3) ls st) : am_W E C Q μ cl sl pc ls (w :: .ref n :: st) := by
  intro H locs la hA hS hl
  have hat := (hA.2.2 n).2.1 (by rw [hs]; exact hc)
  rw [hs] at hat
  obtain ⟨cell, q1, q2, q3, q4⟩ := hat
  have hK := fx.2.2.2.2.2.1.1
  have hap := va_apart (own := own) fx.2.2.2.2.1 (am_inC hc) (am_ty ci) (am_tyC hc) (am_nmC hc) hK (am_cl_at hc)
  obtain ⟨hSl, hfc, kC, hkC, hkind⟩ := hK.1 ci _ (am_cl_at hc)
  obtain ⟨cf, kf, fi, f, hi, hsl⟩ := hSl k hk
  have hlay := fx.2.2.2.2.1 _ (am_inC hc _ (u_in_lay hk))
  unfold u_lay at hlay
  rw [if_neg (by rw [hfin]; decide)] at hlay
  have hst := (u_facts hfc hkC (u_lays fx.2.2.2.2.1 (am_inC hc) hk) hi).1
  have h6 := u_store hfc hkC hkind hlay hi (am_tyC hc k hk) hn hfit
  have n0 : 0 < n := (hA.2.2 n).1 (by rw [hs]; omega)
  have fin : ∀ H' : Heap, H'[am_rho E n]? = some (cell.setSlot f.slot (am_tr E w)) → H'.size = H.size → (∀ q, q ≠ am_rho E n → H'[q]? = H[q]?) → W (cx_p C) E.1 (cx_e C) (cx_R C) (cx_s C) (cx_m C) (cx_a C) (cx_b C) (cx_M C) (cx_c C) H' (locs ++ [⟨am_rho E n, f.slot⟩]) cl sl Q (F0 (cx_m C) (pc + 3) la (st.map (am_tr E))) := by
    intro H' e1 e2 e3
    rw [hsl] at e1
    refine kk H' _ la (hA.put (n := n) (by rw [hs]; omega) hSm hZ ho ?_ e2 e3) (hS.put e2 e3 (am_rho_b n0)) hl
    refine ⟨fun _ => n0, fun _ => ?_, ?_, ?_, ?_, ?_⟩
    · rw [hSm n, hs]
      refine t_OB.to (V := updV (am_fv E μ n) k (am_tr E w)) ⟨_, e1, q2, q3, t_set q4 hap hk _⟩ (fun j _ => ?_)
      rw [hv j]
      rfl
    all_goals (rw [hSm n, hs]; intro h; omega)
  rcases lk with hlk | ⟨host, hlk⟩
  · exact W.putK fx.1 fx.2.1 (f := f) ⟨fx.2.2.2.1, fx.2.2.2.2.1 _ hlk, ⟨_, _, _, hi⟩, hst⟩ (by rw [q2]; exact h6) q1 q3 (by rw [hsl]; exact k2_hasslot (q4 k hk)) rfl rfl hd fin
  · exact va_WputK fx.1 fx.2.1 (f := f) fx.2.2.2.1 (va_Nw.use rfl (fx.2.2.2.2.2.1.2.1 _ hlk)) hi hst (by rw [q2]; exact h6) q1 q3 (by rw [hsl]; exact k2_hasslot (q4 k hk)) rfl rfl hd fin
end AMH
