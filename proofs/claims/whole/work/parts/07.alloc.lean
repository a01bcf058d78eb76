theorem am_at_none {E : am_E} {μ : am_M} {H : Heap} {n : Nat} (h : 12 ≤ (mm_S μ n).1) : am_at E μ H n := by
  refine ⟨?_, ?_, ?_, ?_, ?_, ?_⟩ <;> intro q <;> omega
theorem am_none {E : am_E} {μ : am_M} {H : Heap} (h : am_Ag E μ H) {n : Nat} (hn : mm_Z μ ≤ n) : 12 ≤ (mm_S μ n).1 := by
  rcases Nat.lt_or_ge (mm_S μ n).1 12 with q | q
  · have := am_lt h q
    omega
  · exact q
theorem am_Ag.add {E : am_E} {μ μ' : am_M} {H H1 : Heap} (h : am_Ag E μ H) (d : Nat) (hz : H1.size = H.size + d) (hZ : mm_Z μ' = mm_Z μ + d) (hold : ∀ a, a < mm_Z μ → mm_S μ' a = mm_S μ a ∧ ∀ k, mm_I μ' a k = mm_I μ a k ∧ mm_L μ' a k = mm_L μ a k ∧ mm_R μ' a k = mm_R μ a k) (oq : ∀ q, q < H.size → H1[q]? = H[q]?) (hnew : ∀ a, mm_Z μ ≤ a → am_at E μ' H1 a) : am_Ag E μ' H1 := by
  refine ⟨by rw [hz, hZ, am_rho_add h.2.1, h.1], by rw [hZ]; have := h.2.1; omega, fun a => ?_⟩
  by_cases ha : a < mm_Z μ
  · obtain ⟨h1, h2⟩ := hold a ha
    refine (h.2.2 a).kept h1 (fun k => (h2 k).1) (fun k => (h2 k).2.1) (fun k => (h2 k).2.2) (fun h12 => oq _ ?_)
    rw [h.1]
    exact (am_rho_lt ((h.2.2 a).1 h12) h.2.1).mpr ha
  · exact hnew a (by omega)
theorem am_Sgrow {A : Nat → Prop} {H0 H H1 : Heap} {locs : List Loc} (hS : va_S A H0 H locs) (hz : H.size ≤ H1.size) (oq : ∀ q, q < H.size → H1[q]? = H[q]?) : va_S A H0 H1 locs := ⟨Nat.le_trans hS.1 hz, fun q h1 h2 => (oq q (Nat.lt_of_lt_of_le h1 hS.1)).trans (hS.2.1 q h1 h2), hS.2.2⟩
def am_plain : FieldType → Bool
  | .int => true
  | .long => true
  | .object _ => true
  | .array _ => true
  | _ => false
section AMN
variable {E : am_E} {C : am_C} {cc : ByteArray} {own : String} {nL : Nat} {ret : Option FieldType} {R : Room} {Q : State → Prop} {μ : am_M} {cl sl pc : Nat} {ls : List (Option Value)} {st : List Value}
theorem am_new (fx : am_F E C cc own nL ret R) {ci idx N : Nat} (hd : decode cc pc = .ok (.new idx, 3)) (hc : ci < 8) (hN : (am_cl ci).2.2 = N) (h1 : Cond.classLink own idx (am_cl ci).1 ∈ am_G) (h2 : Cond.instantiable (am_cl ci).1 N ∈ am_G) (h3 : Cond.initialized (am_cl ci).1 ∈ am_G) (hp : ∀ j, j < N → am_plain (am_ty ci j) = true) (hcl : cl + 1 ≤ R.cells) (hsl : sl + N ≤ R.slots) (kk : am_W E C Q (mm_nw μ ci 0) (cl + 1) (sl + N) (pc + 3) ls (.ref (mm_Z μ) :: st)) : am_W E C Q μ cl sl pc ls st := by
  intro H locs la hA hS hl
  have hR : cx_R C = R := fx.2.2.2.2.2.2.1
  have hKn := fx.2.2.2.2.2.1.1.1 ci _ (am_cl_at hc)
  refine W.newcK fx.1 fx.2.1 fx.2.2.2.1 (fx.2.2.2.2.1 _ h1) (fx.2.2.2.2.1 _ h2) (fx.2.2.2.2.1 _ h3) rfl hd (by rw [hR]; exact hcl) (by rw [hR]; exact hsl) hKn.2.1 hA.1 fun H1 kC hkC e1 z1 o1 => ?_
  have o2 : ∀ q, q < H.size → H1[q]? = H[q]? := fun q hq => o1 q (by rw [← hA.1]; exact hq)
  have hold : ∀ a, a < mm_Z μ → ¬ a = mm_Z μ := fun a h => Nat.ne_of_lt h
  refine kk H1 locs la (hA.add 1 (by rw [z1, hA.1]) rfl (fun a ha => ⟨by rw [mS_nw, if_neg (hold a ha)], fun k => ⟨by rw [mI_nw, if_neg (hold a ha)], by rw [mL_nw, if_neg (hold a ha)], by rw [mR_nw, if_neg (hold a ha)]⟩⟩) o2 (fun a ha => ?_)) (am_Sgrow hS (by rw [z1, hA.1]; omega) o2) hl
  by_cases he : a = mm_Z μ
  · subst he
    refine ⟨fun _ => hA.2.1, fun _ => ?_, ?_, ?_, ?_, ?_⟩
    · rw [mS_nw, if_pos rfl]
      refine (u_born (am_ty ci) fx.2.2.2.2.1 (am_inC hc) hKn hkC e1 (am_tyC hc)).to (fun j hj => ?_)
      have hp2 := hp j (by rw [← hN]; exact hj)
      simp only [am_fv, mS_nw, if_true, mI_nw, mL_nw, mR_nw]
      revert hp2
      generalize am_ty ci j = t
      intro hp2
      cases t <;> first | rfl | (cases hp2)
    all_goals (rw [mS_nw, if_pos rfl]; intro q; dsimp only at q; omega)
  · exact am_at_none (by rw [mS_nw, if_neg he]; exact am_none hA ha)
theorem am_newarr (fx : am_F E C cc own nL ret R) {at_ : ArrayType} {kd N : Nat} {x : Int32} (hd : decode cc pc = .ok (.newarray at_, 2)) (hk : (at_ = .int ∧ kd = 8) ∨ (at_ = .long ∧ kd = 9) ∨ (at_ = .boolean ∧ kd = 10)) (hw : Cond.arrayClass (newarray.typeOf at_) ∈ am_G) (hx : x = nI N) (hN : N < 65536) (hcl : cl + 1 ≤ R.cells) (hsl : sl + N ≤ R.slots) (kk : am_W E C Q (mm_nw μ kd N) (cl + 1) (sl + N) (pc + 2) ls (.ref (mm_Z μ) :: st)) : am_W E C Q μ cl sl pc ls (.int x :: st) := by
  intro H locs la hA hS hl
  subst hx
  have hR : cx_R C = R := fx.2.2.2.2.2.2.1
  refine va_newaK fx.1 fx.2.1 (fx.2.2.2.2.1 _ hw) rfl hd rfl (nI_pos (by omega)) (nI_clamp (by omega)) (by rcases hk with ⟨rfl, -⟩ | ⟨rfl, -⟩ | ⟨rfl, -⟩ <;> simp [newarray.typeOf, componentBytes] <;> omega) (by rw [hR]; exact hcl) (by rw [hR]; exact hsl) hA.1 fun H1 cA e1 z1 o1 hAr hNm => ?_
  have o2 : ∀ q, q < H.size → H1[q]? = H[q]? := fun q hq => o1 q (by rw [← hA.1]; exact hq)
  have hold : ∀ a, a < mm_Z μ → ¬ a = mm_Z μ := fun a h => Nat.ne_of_lt h
  refine kk H1 locs la (hA.add 1 (by rw [z1, hA.1]) rfl (fun a ha => ⟨by rw [mS_nw, if_neg (hold a ha)], fun k => ⟨by rw [mI_nw, if_neg (hold a ha)], by rw [mL_nw, if_neg (hold a ha)], by rw [mR_nw, if_neg (hold a ha)]⟩⟩) o2 (fun a ha => ?_)) (am_Sgrow hS (by rw [z1, hA.1]; omega) o2) hl
  by_cases he : a = mm_Z μ
  · subst he
    rcases hk with ⟨rfl, rfl⟩ | ⟨rfl, rfl⟩ | ⟨rfl, rfl⟩
    · have hcy : E.2.2.2 0 = cA := Option.some.inj ((fx.2.2.2.2.2.1.1.2 0 _ rfl).2.symm.trans hNm)
      refine ⟨fun _ => hA.2.1, ?_, ?_, ?_, ?_, ?_⟩ <;> rw [mS_nw, if_pos rfl] <;> intro q <;> first | (exfalso; revert q; simp; done) | skip
      rw [e1, hcy]
      simp only [mI_nw, if_true]
      rfl
    · have hcy : E.2.2.2 1 = cA := Option.some.inj ((fx.2.2.2.2.2.1.1.2 1 _ rfl).2.symm.trans hNm)
      refine ⟨fun _ => hA.2.1, ?_, ?_, ?_, ?_, ?_⟩ <;> rw [mS_nw, if_pos rfl] <;> intro q <;> first | (exfalso; revert q; simp; done) | skip
      rw [e1, hcy]
      simp only [mL_nw, if_true]
      rfl
    · have hcy : E.2.2.2 2 = cA := Option.some.inj ((fx.2.2.2.2.2.1.1.2 2 _ rfl).2.symm.trans hNm)
      refine ⟨fun _ => hA.2.1, ?_, ?_, ?_, ?_, ?_⟩ <;> rw [mS_nw, if_pos rfl] <;> intro q <;> first | (exfalso; revert q; simp; done) | skip
      rw [e1, hcy]
      simp only [mI_nw, if_true]
      rfl
  · exact am_at_none (by rw [mS_nw, if_neg he]; exact am_none hA ha)
theorem am_mna (fx : am_F E C cc own nL ret R) {idx N K : Nat} {x y : Int32} (hd : decode cc pc = .ok (.multianewarray idx 2, 4)) (h1 : Cond.classLink own idx "[[I" ∈ am_G) (hw : Cond.arrayClass .int ∈ am_G) (hx : x = nI N) (hy : y = nI K) (hN : N < 65536) (hK : K < 65536) (hcl : cl + (1 + N) ≤ R.cells) (hsl : sl + (N + N * K) ≤ R.slots) (kk : am_W E C Q (mm_gr μ N K) (cl + 1 + N) (sl + N + N * K) (pc + 4) ls (.ref (mm_Z μ) :: st)) : am_W E C Q μ cl sl pc ls (.int y :: .int x :: st) := by
  intro H locs la hA hS hl
  subst hx; subst hy
  have hR : cx_R C = R := fx.2.2.2.2.2.2.1
  intro T hT Xs
  have cN : (nI N).toNatClampNeg = N := nI_clamp (by omega)
  have cK : (nI K).toNatClampNeg = K := nI_clamp (by omega)
  obtain ⟨vm₁, cA, comp, -, fA, fC, hO, hI, X', step⟩ := Xs.multianewarray2F (ty := .int) fx.1 fx.2.2.2.1 (fx.2.2.2.2.1 _ h1) fx.2.2.2.2.2.1.2.2 (fx.2.2.2.2.1 _ hw) (g := F0 (cx_m C) pc la (.int (nI K) :: .int (nI N) :: st.map (am_tr E))) rfl (by rw [fx.2.1]; exact hd) rfl (nI_pos (by omega)) (nI_pos (by omega)) (by rw [cN]; omega) (by rw [cK]; simp [componentBytes]; omega) (by rw [cK]; omega) rfl rfl (by rw [cN, hR]; exact hcl) (by rw [cN, cK, hR]; exact hsl)
  rw [cN, cK] at X' step
  have ec : E.2.2.2 0 = comp := Option.some.inj ((fx.2.2.2.2.2.1.1.2 0 _ rfl).2.symm.trans fC)
  have ea : E.2.2.2 3 = cA := Option.some.inj ((fx.2.2.2.2.2.1.1.2 3 _ rfl).2.symm.trans fA)
  generalize hF : Jvm.Free.Multi.fill (T.setVm vm₁) cA comp N K (defaultValue .int) N = F at X' step
  have hTh : (T.setVm vm₁).heap = H := hT
  obtain ⟨f1, f2, -, -⟩ := Jvm.Free.Multi.fill_facts (T.setVm vm₁) cA comp N K (defaultValue .int) N
  rw [hF, hTh] at f1 f2
  have o2 : ∀ q : Nat, q < H.size → F.heap[q]? = H[q]? := fun q hq => by
    have := Jvm.Free.Multi.fill_old (T.setVm vm₁) cA comp N K (defaultValue .int) (a := q) (by rw [hTh]; exact hq) N
    rw [hF, hTh] at this
    exact this
  have hrow : ∀ j : Nat, j < N → F.heap[H.size + 1 + j]? = some (arrV comp K (fun _ => .int 0)) := fun j hj => by
    have := Jvm.Free.Multi.fill_inner (T.setVm vm₁) cA comp N K (defaultValue .int) N j hj
    rw [hF, hTh] at this
    rw [this, ← arrV_new]
    rfl
  rw [vr_outer] at f2
  have Z0 := hA.2.1
  have key : am_Ag E (mm_gr μ N K) F.heap := by
    refine hA.add (1 + N) (by rw [f1]; omega) (by rw [mZ_gr]; omega) (fun a ha => ⟨?_, fun k => ⟨?_, rfl, ?_⟩⟩) o2 (fun a ha => ?_)
    · rw [mS_gr, if_neg (by omega), if_neg (by omega)]
    · rw [mI_gr, if_neg (by omega)]
    · rw [mR_gr, if_neg (by omega)]
    · by_cases he : a = mm_Z μ
      · subst he
        refine ⟨fun _ => hA.2.1, ?_, ?_, ?_, ?_, ?_⟩ <;> rw [mS_gr, if_pos rfl] <;> intro q <;> first | (exfalso; revert q; simp; done) | skip
        rw [← hA.1, f2, ea]
        congr 2
        funext j
        rw [mR_gr, if_pos rfl]
        by_cases hj : j < N
        · rw [if_pos hj, if_pos hj]
          show va_rf (some _) = va_rf (some _)
          rw [Nat.add_assoc (mm_Z μ), am_rho_add Z0, ← hA.1, Nat.add_assoc]
        · rw [if_neg hj, if_neg hj]
          rfl
      · by_cases hr : mm_Z μ < a ∧ a ≤ mm_Z μ + N
        · refine ⟨fun _ => by omega, ?_, ?_, ?_, ?_, ?_⟩ <;> rw [mS_gr, if_neg he, if_pos hr] <;> intro q <;> first | (exfalso; revert q; simp; done) | skip
          obtain ⟨j, hj, rfl⟩ : ∃ j, j < N ∧ a = mm_Z μ + (1 + j) := ⟨a - mm_Z μ - 1, by omega, by omega⟩
          rw [am_rho_add Z0, ← hA.1, ← Nat.add_assoc, hrow j hj, ec]
          congr 2
          funext k
          rw [mI_gr, if_pos hr]
        · exact am_at_none (by rw [mS_gr, if_neg he, if_neg hr]; exact am_none hA (by omega))
  obtain ⟨t, a1, b1⟩ := kk F.heap locs la key (am_Sgrow hS (by rw [f1]; omega) o2) hl F rfl X'
  refine ⟨t, step t ?_, b1⟩
  rw [hT, hA.1]
  exact a1
end AMN
