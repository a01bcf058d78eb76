theorem xk_l7 : Cond.methodLink RL 7 yX6_mean ∈ am_G := am_inG2 (by decide +kernel)
theorem xk_l89 : Cond.methodLink RL 89 yL_mean ∈ am_G := am_inG2 (by decide +kernel)
theorem xk_ls : Cond.static yL_mean ∈ am_G := am_inG2 (by decide +kernel)
theorem xk_li : Cond.initialized yL_mean.cls ∈ am_G := am_inG2 (by decide +kernel)
theorem xk_lp : (parseMethodDescriptor yL_mean.desc).map (fun d => d.parameters.length) = some 5 := by decide +kernel
abbrev cdL : Cond := Cond.codeWith yL_mean cL_mean 6 (some .int) [(0, 11, 14, 13)]
def am_CtL (E : am_E) (as : List Value) (μ : am_M) (post : Option Value → am_M → Prop) : Prop := Met E.1 yL_mean (cdL :: am_G) rmL_mean (am_Px E as μ) (am_Qc E post) rmL_mean.cells rmL_mean.slots (am_A E)
abbrev xrow : ExceptionTableEntry := { startPc := 0, endPc := 11, handlerPc := 14, catchType := 13 }
theorem am_CtL.of {E : am_E} {as : List Value} {μ : am_M} {post : Option Value → am_M → Prop} {ls : List (Option Value)} (hl : (am_lay as).length ≤ 6) (hls : am_en 6 as = ls)
    (body : ∀ C : am_C, am_F E C cL_mean yL_mean.cls 6 (some .int) rmL_mean → (cx_c C).exceptionTable.toList = [xrow] → am_X E (cx_s C) → am_W E C (am_MQ E C post rmL_mean.cells rmL_mean.slots) μ 0 0 0 ls []) : am_CtL E as μ post := by
  refine va_MetW (cc := cL_mean) (maxL := 6) (ret := some .int) (by decide) rfl ?_
  intro p e s m args below meth c s₁ B hml hv
  obtain ⟨⟨rfl, hAg, hK, hb⟩, hX⟩ := hv
  have hts := atoms_spec (ws := cdL :: am_G) B.pre
  have hown : s.vm.findClass yL_mean.cls = some m.cls := findClass_of_methodNamed B.named
  have fx : am_F E (p, e, rmL_mean, s, m, (as.map (am_tr E)).toArray, below, meth, c) cL_mean yL_mean.cls 6 (some .int) rmL_mean := ⟨B.exec, B.bytes, hml, hown, fun w hw => hts w (List.mem_cons_of_mem _ hw), hK, rfl, hb, B.returns, B.notSynchronized⟩
  have hT : c.exceptionTable.toList = [xrow] := (vx_table (x := yL_mean) B (hts _ List.mem_cons_self)).trans rfl
  have h9 := body _ fx hT hX s.heap [] _ hAg va_S.rf (am_entry (C := (p, e, rmL_mean, s, m, (as.map (am_tr E)).toArray, below, meth, c)) hml hl hls)
  have e9 : entryFrame m (as.map (am_tr E)).toArray 6 = F0 m 0 (entryFrame m (as.map (am_tr E)).toArray 6).locals [] := by rw [lg_entry_eq]
  rw [e9]
  exact h9
set_option maxRecDepth 100000 in
set_option maxHeartbeats 1000000 in
theorem ct_L_mean {E : am_E} {μ : am_M} (hb : Bs μ) (a b c : Int32) {post : Option Value → am_M → Prop} {P : Prop} (hM : am_CtX E yX6_mean cX6_mean 4 (some .long) rmX6_mean [.ref 1, .int a, .int b, .int c] μ post P) (hp : ∀ v ν, post v ν → (∃ w, v = some (.long w)) ∧ mm_S ν 56 = (9, 1)) :
    am_CtL E [.ref 1, .int a, .int b, .int c, .ref 56] μ (fun v μ' => (P ∧ v = some (.int 1) ∧ ∃ d, μ' = mm_bp μ d) ∨ (∃ ν w, post (some (.long w)) ν ∧ v = some (.int 0) ∧ μ' = mm_sL ν 56 0 w)) := by
  refine am_CtL.of (ls := [some (.ref 1), some (.int a), some (.int b), some (.int c), some (.ref 56), none]) (Nat.le_of_ble_eq_true rfl) rfl (fun C fx hT hX => ?_)
  refine am_aload fx dL_mean_0 rfl ?_
  refine am_iconst (v := 0) fx dL_mean_2 (by decide) ?_
  refine am_aload_n fx dL_mean_3 rfl ?_
  refine am_iload_n fx dL_mean_4 rfl ?_
  refine am_iload_n fx dL_mean_5 rfl ?_
  refine am_iload_n fx dL_mean_6 rfl ?_
  refine am_callVX fx dL_mean_7 ⟨⟨xk_l7, mkL_7.1.2.1, mkL_7.1.2.2.1, mkL_7.1.2.2.2⟩, mkL_7.2⟩ hM hX (so6 hb) ⟨by decide, rfl⟩ rfl (Nat.le_of_ble_eq_true rfl) ⟨by decide, by decide⟩ ⟨Nat.le_of_ble_eq_true rfl, Nat.le_of_ble_eq_true rfl⟩ rfl hT (by decide) (by decide) xk_lc ?_ ?_
  · intro v ν hq
    obtain ⟨⟨wl, rfl⟩, hs⟩ := hp v ν hq
    refine am_last (j := 0) fx dL_mean_10 hs rfl (by decide) (by decide) ?_
    refine am_goto fx 18 dL_mean_11 (by decide) ?_
    refine am_iconst (v := 0) fx dL_mean_18 (by decide) ?_
    exact am_iret fx dL_mean_19 (Or.inr ⟨ν, wl, hq, rfl, rfl⟩)
  · intro d q H locs la hP hA hS hl
    refine lv_astore fx.1 fx.2.1 dL_mean_14 hl.has (by rw [fx.2.2.1]; decide) rfl (fun ls' h' => ?_)
    have hk : am_W E C (am_MQ E C (fun v μ' => (P ∧ v = some (.int 1) ∧ ∃ d, μ' = mm_bp μ d) ∨ (∃ ν w, post (some (.long w)) ν ∧ v = some (.int 0) ∧ μ' = mm_sL ν 56 0 w)) rmL_mean.cells rmL_mean.slots) (mm_bp μ d) (0 + rmX6_mean.cells) (0 + rmX6_mean.slots) 16 [] [] := by
      refine am_iconst (v := 1) fx dL_mean_16 (by decide) ?_
      exact am_iret fx dL_mean_17 (Or.inl ⟨hP, rfl, d, rfl⟩)
    exact hk H locs ls' hA hS ⟨h'.1, h'.2.1, fun i v hi => by simp at hi⟩
section AMXL
variable {E : am_E} {C : am_C} {cc : ByteArray} {nL : Nat} {ret : Option FieldType} {R : Room} {Q : State → Prop} {μ : am_M} {cl sl pc : Nat} {ls : List (Option Value)} {st : List Value} {post : Option Value → am_M → Prop}
theorem am_goodL : GoodIn am_G (cdL :: am_G) := by
  intro w hw
  rcases List.mem_cons.mp hw with rfl | hw
  · exact ⟨xk_lm, good_of_word (List.mem_filter.mp xk_lm).2⟩
  · exact ⟨hw, good_of_word (List.mem_filter.mp hw).2⟩
theorem am_callSL (fx : am_F E C cc RL nL ret R) (hX : am_X E (cx_s C)) {As rest : List Value} (hd : decode cc pc = .ok (.invokestatic 89, 3)) (hM : am_CtL E As μ post) (hn : As.length = 5) (hw : (rest.map fun v => v.category).sum ≤ 8) (hR : rmL_mean.frames + 1 ≤ R.frames ∧ 8 + (6 + 11) + rmL_mean.locals ≤ R.locals) (hf : cl + rmL_mean.cells ≤ R.cells ∧ sl + rmL_mean.slots ≤ R.slots) (hst : st = As.reverse ++ rest)
    (kk : ∀ (v : Option Value) (μ' : am_M), post v μ' → am_W E C Q μ' (cl + rmL_mean.cells) (sl + rmL_mean.slots) (pc + 3) ls (v.toList ++ rest)) : am_W E C Q μ cl sl pc ls st := by
  intro H locs la hA hS hl
  subst hst
  have hts := fx.2.2.2.2.1
  have hEq : cx_R C = R := fx.2.2.2.2.2.2.1
  have hp : PreS (cx_s C) H (am_Px E As μ) (As.map (am_tr E)) := ⟨am_Px_blind, fun U hU hW => ⟨⟨rfl, by rw [hU]; exact hA, fx.2.2.2.2.2.1.warm hW, by rw [hU]; exact Nat.le_trans fx.2.2.2.2.2.2.2.1 hS.1⟩, hX.moved hW (by rw [hU]; exact hS)⟩⟩
  have hmap : (As.reverse ++ rest).map (am_tr E) = (As.map (am_tr E)).reverse ++ rest.map (am_tr E) := by rw [List.map_append, List.map_reverse]
  rw [hmap]
  have hw2 : 2 * (F0 (cx_m C) pc la ((As.map (am_tr E)).reverse ++ rest.map (am_tr E))).monitorRoom + ((rest.map (am_tr E)).map fun v => v.category).sum ≤ 8 := lv_room (by rw [List.map_map, show ((fun v : Value => v.category) ∘ am_tr E) = fun v => v.category from funext fun v => am_tr_cat E v]; exact hw)
  rw [← hEq] at hR hf
  refine am_back (a := (As.map (am_tr E)).toArray) hS hl (vx_runSW (As := As.map (am_tr E)) (rest := rest.map (am_tr E)) (maxL := 6) (ret := some .int) (bytes := cL_mean) (hh := [(0, 11, 14, 13)]) (index := 89) (n := 5) (y := yL_mean) ⟨fx.1, fx.2.1, fx.2.2.1, fx.2.2.2.1, hts⟩ hM ⟨⟨rfl, rfl, hR.1, hR.2, pay_in hts am_goodL, List.mem_cons_self⟩, hts _ xk_lm, hts _ xk_li, ⟨by decide, by decide⟩, fun sig h => ?_, hts _ xk_l89, hts _ xk_ls⟩ hp rfl (by simpa using hn) (hl.1.trans fx.2.2.1) rfl hw2 hd hf) kk
  have h2 := xk_lp
  rw [h] at h2
  exact (Option.some.inj h2).symm
end AMXL
