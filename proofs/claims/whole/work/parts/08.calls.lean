/-! contracts over the abstract memory; entry, calls, returns -/
abbrev am_A (E : am_E) : Nat → Prop := fun q => E.2.1.2 ≤ q
def am_Pc (E : am_E) (as : List Value) (μ : am_M) : Array Value → State → Prop := fun a U => a = (as.map (am_tr E)).toArray ∧ am_Ag E μ U.heap ∧ am_K E U ∧ E.2.1.2 ≤ U.heap.size
def am_Qc (E : am_E) (post : Option Value → am_M → Prop) : Array Value → State → Outcome → State → Prop := fun _ st o t => (∃ (v : Option Value) (μ' : am_M), o = .returned (v.map (am_tr E)) ∧ post v μ' ∧ am_Ag E μ' t.heap) ∧ va_F (am_A E) st t
def am_Ct (E : am_E) (y : MethodName) (cc : ByteArray) (nL : Nat) (ret : Option FieldType) (rm : Room) (as : List Value) (μ : am_M) (post : Option Value → am_M → Prop) : Prop := Met E.1 y (Cond.code y cc nL ret :: am_G) rm (am_Pc E as μ) (am_Qc E post) rm.cells rm.slots (am_A E)
abbrev am_MQ (E : am_E) (C : am_C) (post : Option Value → am_M → Prop) (mc ms : Nat) : State → Prop := MQ (cx_b C) (am_Qc E post) (cx_a C) (cx_s C) mc ms (am_A E)
def am_lay : List Value → List (Option Value)
  | [] => []
  | v :: vs => if v.category = 2 then some v :: none :: am_lay vs else some v :: am_lay vs
def am_en (nL : Nat) (as : List Value) : List (Option Value) := am_lay as ++ List.replicate (nL - (am_lay as).length) none
theorem am_lay_in (E : am_E) : ∀ (as : List Value) (k i : Nat) (v : Value), (am_lay as)[i]? = some (some v) → (k + i, am_tr E v) ∈ lv_args k (as.map (am_tr E))
  | [], k, i, v, h => by simp [am_lay] at h
  | a :: as, k, i, v, h => by
    simp only [List.map_cons, lv_args, am_tr_cat]
    simp only [am_lay] at h
    by_cases hc : a.category = 2
    · rw [if_pos hc] at h ⊢
      match i, h with
      | 0, h =>
        simp only [List.getElem?_cons_zero, Option.some.injEq] at h
        subst h
        exact List.mem_cons_self
      | 1, h => simp at h
      | i + 2, h =>
        simp only [List.getElem?_cons_succ] at h
        have := am_lay_in E as (k + 2) i v h
        rw [show k + 2 + i = k + (i + 2) by omega] at this
        exact List.mem_cons_of_mem _ this
    · rw [if_neg hc] at h ⊢
      match i, h with
      | 0, h =>
        simp only [List.getElem?_cons_zero, Option.some.injEq] at h
        subst h
        exact List.mem_cons_self
      | i + 1, h =>
        simp only [List.getElem?_cons_succ] at h
        have := am_lay_in E as (k + 1) i v h
        rw [show k + 1 + i = k + (i + 1) by omega] at this
        exact List.mem_cons_of_mem _ this
theorem am_lay_len (E : am_E) : ∀ as : List Value, (lg_sl (as.map (am_tr E))).length = (am_lay as).length
  | [] => rfl
  | a :: as => by
    have h := am_lay_len E as
    simp only [lg_sl] at h
    simp only [List.map_cons, lg_sl, List.flatMap_cons, am_tr_cat, am_lay, List.length_append]
    by_cases hc : a.category = 2
    · rw [if_pos hc, if_pos hc, h]; simp; omega
    · rw [if_neg hc, if_neg hc, h]; simp; omega
theorem am_Ct.of {E : am_E} {y : MethodName} {cc : ByteArray} {nL : Nat} {ret : Option FieldType} {rm : Room} {as : List Value} {μ : am_M} {post : Option Value → am_M → Prop} {ls : List (Option Value)} (hy : plainName y.cls = true) (hl : (am_lay as).length ≤ nL) (hls : am_en nL as = ls)
    (body : ∀ C : am_C, am_F E C cc y.cls nL ret rm → (cx_M C).name = y.name → am_W E C (am_MQ E C post rm.cells rm.slots) μ 0 0 0 ls []) : am_Ct E y cc nL ret rm as μ post := by
  refine Met.ofW (cc := cc) (maxL := nL) (ret := ret) hy rfl ?_
  intro p e s m args below meth c s₁ B hml hv
  obtain ⟨rfl, hAg, hK, hb⟩ := hv
  have hts := atoms_spec (ws := Cond.code y cc nL ret :: am_G) B.pre
  have hown : s.vm.findClass y.cls = some m.cls := findClass_of_methodNamed B.named
  have fx : am_F E (p, e, rm, s, m, (as.map (am_tr E)).toArray, below, meth, c) cc y.cls nL ret rm := ⟨B.exec, B.bytes, hml, hown, fun w hw => hts w (List.mem_cons_of_mem _ hw), hK, rfl, hb, B.returns, B.notSynchronized⟩
  have hlen : (lg_sl (as.map (am_tr E))).length ≤ nL := by rw [am_lay_len]; exact hl
  have hla := lv_entry (as.map (am_tr E)) (n := nL) hlen
  rw [lg_entry_eq]
  refine body _ fx (name_of_methodNamed B.named B.method).1 s.heap [] _ hAg va_S.rf ⟨by rw [show (cx_c (p, e, rm, s, m, (as.map (am_tr E)).toArray, below, meth, c)).maxLocals = nL from hml]; exact hla.1, hla.2.1, fun i v hi => ?_⟩
  subst hls
  have hi2 : (am_lay as)[i]? = some (some v) := by
    unfold am_en at hi
    by_cases h : i < (am_lay as).length
    · rwa [List.getElem?_append_left h] at hi
    · rw [List.getElem?_append_right (by omega), List.getElem?_replicate] at hi
      split at hi <;> cases hi
  have := am_lay_in E as 0 i v hi2
  rw [Nat.zero_add] at this
  exact hla.2.2 _ this
section AMX
variable {E : am_E} {C : am_C} {cc : ByteArray} {own : String} {nL : Nat} {ret : Option FieldType} {R : Room} {Q : State → Prop} {μ : am_M} {cl sl pc : Nat} {ls : List (Option Value)} {st : List Value} {post : Option Value → am_M → Prop}
theorem am_end {H : Heap} {locs : List Loc} {v : Option Value} (hA : am_Ag E μ H) (hS : va_S (am_A E) (cx_s C).heap H locs) (hp : post v μ) {o : Option Value} (ho : o = v.map (am_tr E)) : ∀ t : State, t.heap = H → (cx_s C).WarmedH t.vm → am_Qc E post (cx_a C) (cx_s C) (.returned o) t := fun t ht _ => ⟨⟨v, μ, by rw [ho], hp, by rw [ht]; exact hA⟩, hS.F ht⟩
theorem am_iret (fx : am_F E C cc own nL (some .int) R) {v : Int32} (hd : decode cc pc = .ok (.ireturn, 1)) (hp : post (some (.int v)) μ) : am_W E C (am_MQ E C post cl sl) μ cl sl pc ls [.int v] := fun H locs la hA hS hl => W.iret fx.1 fx.2.1 fx.2.2.2.2.2.2.2.2.1 (am_end hA hS hp rfl) hS.2.2 hd fx.2.2.2.2.2.2.2.2.2
theorem am_zret (fx : am_F E C cc own nL (some .boolean) R) {v : Int32} (hd : decode cc pc = .ok (.ireturn, 1)) (hv : v = 0 ∨ v = 1) (hp : post (some (.int v)) μ) : am_W E C (am_MQ E C post cl sl) μ cl sl pc ls [.int v] := fun H locs la hA hS hl => W.zret fx.1 fx.2.1 fx.2.2.2.2.2.2.2.2.1 (by rcases hv with rfl | rfl <;> rfl) (am_end hA hS hp rfl) hS.2.2 hd fx.2.2.2.2.2.2.2.2.2
theorem am_lret (fx : am_F E C cc own nL (some .long) R) {v : Int64} (hd : decode cc pc = .ok (.lreturn, 1)) (hp : post (some (.long v)) μ) : am_W E C (am_MQ E C post cl sl) μ cl sl pc ls [.long v] := fun H locs la hA hS hl => W.lret fx.1 fx.2.1 fx.2.2.2.2.2.2.2.2.1 (am_end hA hS hp rfl) hS.2.2 hd fx.2.2.2.2.2.2.2.2.2
theorem am_vret (fx : am_F E C cc own nL none R) (hd : decode cc pc = .ok (.return_, 1)) (hp : post none μ) : am_W E C (am_MQ E C post cl sl) μ cl sl pc ls [] := fun H locs la hA hS hl => W.vret fx.1 fx.2.1 fx.2.2.2.2.2.2.2.2.1 (am_end (v := none) hA hS hp rfl) hS.2.2 hd fx.2.2.2.2.2.2.2.2.2
theorem am_aret {t : FieldType} (fx : am_F E C cc own nL (some (.array t)) R) {a : Nat} (hd : decode cc pc = .ok (.areturn, 1)) (hp : post (some (.ref a)) μ) : am_W E C (am_MQ E C post cl sl) μ cl sl pc ls [.ref a] := fun H locs la hA hS hl => W.aret (v := .ref (am_rho E a)) fx.1 fx.2.1 fx.2.2.2.2.2.2.2.2.1 (Or.inr ⟨_, rfl⟩) (Or.inr ⟨_, rfl⟩) (am_end (v := some (.ref a)) hA hS hp rfl) hS.2.2 hd fx.2.2.2.2.2.2.2.2.2
theorem am_back {H : Heap} {locs : List Loc} {la : Array Slot} {mc ms : Nat} {stk : List Value} {rest : List Value} {a : Array Value} (hS : va_S (am_A E) (cx_s C).heap H locs) (hl : am_ls E la (cx_c C).maxLocals ls)
    (hr : va_Run (cx_p C) E.1 (cx_e C) (cx_R C) (cx_s C) (cx_m C) (cx_a C) (cx_b C) (cx_M C) (cx_c C) H locs cl sl mc ms (F0 (cx_m C) pc la stk) (rest.map (am_tr E)) (am_Qc E post a) (am_A E))
    (kk : ∀ (v : Option Value) (μ' : am_M), post v μ' → am_W E C Q μ' (cl + mc) (sl + ms) (pc + 3) ls (v.toList ++ rest)) : W (cx_p C) E.1 (cx_e C) (cx_R C) (cx_s C) (cx_m C) (cx_a C) (cx_b C) (cx_M C) (cx_c C) H locs cl sl Q (F0 (cx_m C) pc la stk) := by
  intro T hT X
  obtain ⟨v, st₀, t, T', L, h0, X', hL, e1, e2, ⟨⟨v', μ', hv, hp, hA'⟩, hz, hk⟩, step⟩ := hr T hT X
  cases hv
  rw [h0] at hz hk
  have hS' : va_S (am_A E) (cx_s C).heap T'.heap (locs ++ L) := ⟨Nat.le_trans hS.1 (by rw [e1]; exact hz), fun q h1 h2 => by rw [e1, hk q (Nat.lt_of_lt_of_le h1 hS.1) h2]; exact hS.2.1 q h1 h2, fun q hq => by
    rcases List.mem_append.mp hq with h | h
    · exact hS.2.2 q h
    · exact hL q h⟩
  obtain ⟨t2, a1, b1⟩ := kk v' μ' hp T'.heap (locs ++ L) la (by rw [e1]; exact hA') hS' hl T' rfl X'
  refine ⟨t2, step t2 ?_, b1⟩
  have e3 : (v'.map (am_tr E)).toList ++ rest.map (am_tr E) = (v'.toList ++ rest).map (am_tr E) := by cases v' <;> rfl
  rw [e3]
  exact a1
/-- the words of a call's method -/
def am_mk (own : String) (idx : Nat) (y : MethodName) (cc : ByteArray) (nL : Nat) (ret : Option FieldType) (n : Nat) : Prop := (Cond.methodLink own idx y ∈ am_G ∨ ∃ host, Cond.methodLinkNest own idx y host ∈ am_N) ∧ Cond.code y cc nL ret ∈ am_G ∧ Cond.initialized y.cls ∈ am_G ∧ (y.cls ≠ "java/lang/invoke/MethodHandle" ∧ y.cls ≠ "java/lang/invoke/VarHandle" ∧ (parseMethodDescriptor y.desc).map (fun d => d.parameters.length) = some n)
theorem am_good {y : MethodName} {cc : ByteArray} {nL : Nat} {ret : Option FieldType} (h : Cond.code y cc nL ret ∈ am_G) : GoodIn am_G (Cond.code y cc nL ret :: am_G) := by
  intro w hw
  rcases List.mem_cons.mp hw with rfl | hw
  · exact ⟨h, good_of_word (List.mem_filter.mp h).2⟩
  · exact ⟨hw, good_of_word (List.mem_filter.mp hw).2⟩
theorem am_Pc_blind {as : List Value} : FrameBlind (am_Pc E as μ) := fun a U g mk q => ⟨q.1, q.2.1, ⟨va_K.moved (u := U) (U := U.calling g mk a) (Vm.Alike.refl U.vm) q.2.2.1.1, fun w hw => by
    have h3 := (List.mem_filter.mp hw).2
    have h2 := q.2.2.1.2.1 w hw
    cases w <;> first | (simp [am_isN] at h3; done) | exact va_Nw.same rfl (u := U) (U := U.calling g mk a) rfl h2, q.2.2.1.2.2⟩, q.2.2.2⟩
theorem am_callV (fx : am_F E C cc own nL ret R) {y : MethodName} {cc' : ByteArray} {nL' n idx a ci : Nat} {ret' : Option FieldType} {rm : Room} {As rest : List Value} (hd : decode cc pc = .ok (.invokevirtual idx, 3)) (lk : am_mk own idx y cc' nL' ret' n ∧ Cond.instanceMethod y ∈ am_G ∧ Cond.selects y.cls y y ∈ am_G) (hM : am_Ct E y cc' nL' ret' rm (.ref a :: As) μ post) (hs : (mm_S μ a).1 = ci) (hc : ci < 8 ∧ (am_cl ci).1 = y.cls) (hn : As.length = n) (hw : (rest.map fun v => v.category).sum ≤ 8) (hR : rm.frames + 1 ≤ R.frames ∧ 8 + (nL' + 11) + rm.locals ≤ R.locals) (hf : cl + rm.cells ≤ R.cells ∧ sl + rm.slots ≤ R.slots) (hst : st = As.reverse ++ .ref a :: rest)
    (kk : ∀ (v : Option Value) (μ' : am_M), post v μ' → am_W E C Q μ' (cl + rm.cells) (sl + rm.slots) (pc + 3) ls (v.toList ++ rest)) : am_W E C Q μ cl sl pc ls st := by
  intro H locs la hA hS hl
  subst hst
  obtain ⟨⟨hlk, hcode, hini, hy1, hy2, hpar⟩, hin, hsel⟩ := lk
  have hts := fx.2.2.2.2.1
  have hEq : cx_R C = R := fx.2.2.2.2.2.2.1
  have hat := (hA.2.2 a).2.1 (by rw [hs]; exact hc.1)
  rw [hs] at hat
  obtain ⟨cell, q1, q2, q3, q4⟩ := hat
  have hfc := (fx.2.2.2.2.2.1.1.1 ci _ (am_cl_at hc.1)).2.1
  have hp : PreV (cx_s C) H y.cls (am_rho E a) (am_Pc E (.ref a :: As) μ) (As.map (am_tr E)) := ⟨am_Pc_blind, ⟨cell, q1, by rw [q3]; rfl, by rw [q2, ← hc.2]; exact hfc⟩, fun U hU hW => ⟨rfl, by rw [hU]; exact hA, fx.2.2.2.2.2.1.warm hW, by rw [hU]; exact Nat.le_trans fx.2.2.2.2.2.2.2.1 hS.1⟩⟩
  have hmap : (As.reverse ++ .ref a :: rest).map (am_tr E) = (As.map (am_tr E)).reverse ++ .ref (am_rho E a) :: rest.map (am_tr E) := by rw [List.map_append, List.map_reverse]; rfl
  rw [hmap]
  have hw2 : 2 * (F0 (cx_m C) pc la ((As.map (am_tr E)).reverse ++ .ref (am_rho E a) :: rest.map (am_tr E))).monitorRoom + ((rest.map (am_tr E)).map fun v => v.category).sum ≤ 8 := lv_room (by rw [List.map_map, show ((fun v : Value => v.category) ∘ am_tr E) = fun v => v.category from funext fun v => am_tr_cat E v]; exact hw)
  rw [← hEq] at hR hf
  rcases hlk with hlk | ⟨host, hlk⟩
  · refine am_back (a := (Value.ref (am_rho E a) :: As.map (am_tr E)).toArray) hS hl (va_runV (As := As.map (am_tr E)) (rest := rest.map (am_tr E)) (b := am_rho E a) (C := y.cls) (maxL := nL') (ret := ret') (bytes := cc') (index := idx) (n := n) ⟨fx.1, fx.2.1, fx.2.2.1, fx.2.2.2.1, hts⟩ hM ⟨callB_of n hts (am_good hcode) rfl rfl rfl (hts _ hini) (hts _ hlk) ⟨hy1, hy2, hpar⟩ hR, hts _ hin, hts _ hsel⟩ hp rfl (by simpa using hn) (hl.1.trans fx.2.2.1) rfl hw2 hd hf) kk
  · refine am_back (a := (Value.ref (am_rho E a) :: As.map (am_tr E)).toArray) hS hl (va_runVN (As := As.map (am_tr E)) (rest := rest.map (am_tr E)) (b := am_rho E a) (C := y.cls) (maxL := nL') (ret := ret') (bytes := cc') (index := idx) (n := n) (host := host) ⟨fx.1, fx.2.1, fx.2.2.1, fx.2.2.2.1, hts⟩ hM ⟨va_cnB n hts (am_good hcode) rfl rfl rfl (fx.2.2.2.2.2.1.2.1 _ hlk) (hts _ hini) ⟨hy1, hy2, hpar⟩ hR, hts _ hin, hts _ hsel⟩ hp rfl (by simpa using hn) (hl.1.trans fx.2.2.1) rfl hw2 hd hf) kk
theorem am_callS (fx : am_F E C cc own nL ret R) {y : MethodName} {cc' : ByteArray} {nL' n idx : Nat} {ret' : Option FieldType} {rm : Room} {As rest : List Value} (hd : decode cc pc = .ok (.invokestatic idx, 3)) (lk : am_mk own idx y cc' nL' ret' n ∧ Cond.static y ∈ am_G) (hM : am_Ct E y cc' nL' ret' rm As μ post) (hn : As.length = n) (hw : (rest.map fun v => v.category).sum ≤ 8) (hR : rm.frames + 1 ≤ R.frames ∧ 8 + (nL' + 11) + rm.locals ≤ R.locals) (hf : cl + rm.cells ≤ R.cells ∧ sl + rm.slots ≤ R.slots) (hst : st = As.reverse ++ rest)
    (kk : ∀ (v : Option Value) (μ' : am_M), post v μ' → am_W E C Q μ' (cl + rm.cells) (sl + rm.slots) (pc + 3) ls (v.toList ++ rest)) : am_W E C Q μ cl sl pc ls st := by
  intro H locs la hA hS hl
  subst hst
  obtain ⟨⟨hlk, hcode, hini, hy1, hy2, hpar⟩, hstt⟩ := lk
  have hts := fx.2.2.2.2.1
  have hEq : cx_R C = R := fx.2.2.2.2.2.2.1
  have hp : PreS (cx_s C) H (am_Pc E As μ) (As.map (am_tr E)) := ⟨am_Pc_blind, fun U hU hW => ⟨rfl, by rw [hU]; exact hA, fx.2.2.2.2.2.1.warm hW, by rw [hU]; exact Nat.le_trans fx.2.2.2.2.2.2.2.1 hS.1⟩⟩
  have hmap : (As.reverse ++ rest).map (am_tr E) = (As.map (am_tr E)).reverse ++ rest.map (am_tr E) := by rw [List.map_append, List.map_reverse]
  rw [hmap]
  have hw2 : 2 * (F0 (cx_m C) pc la ((As.map (am_tr E)).reverse ++ rest.map (am_tr E))).monitorRoom + ((rest.map (am_tr E)).map fun v => v.category).sum ≤ 8 := lv_room (by rw [List.map_map, show ((fun v : Value => v.category) ∘ am_tr E) = fun v => v.category from funext fun v => am_tr_cat E v]; exact hw)
  rw [← hEq] at hR hf
  rcases hlk with hlk | ⟨host, hlk⟩
  · refine am_back (a := (As.map (am_tr E)).toArray) hS hl (va_runS (As := As.map (am_tr E)) (rest := rest.map (am_tr E)) (maxL := nL') (ret := ret') (bytes := cc') (index := idx) (n := n) ⟨fx.1, fx.2.1, fx.2.2.1, fx.2.2.2.1, hts⟩ hM ⟨callB_of n hts (am_good hcode) rfl rfl rfl (hts _ hini) (hts _ hlk) ⟨hy1, hy2, hpar⟩ hR, hts _ hstt⟩ hp rfl (by simpa using hn) (hl.1.trans fx.2.2.1) rfl hw2 hd hf) kk
  · refine am_back (a := (As.map (am_tr E)).toArray) hS hl (va_runSN (As := As.map (am_tr E)) (rest := rest.map (am_tr E)) (maxL := nL') (ret := ret') (bytes := cc') (index := idx) (n := n) (host := host) ⟨fx.1, fx.2.1, fx.2.2.1, fx.2.2.2.1, hts⟩ hM ⟨va_cnB n hts (am_good hcode) rfl rfl rfl (fx.2.2.2.2.2.1.2.1 _ hlk) (hts _ hini) ⟨hy1, hy2, hpar⟩ hR, hts _ hstt, trivial⟩ hp rfl (by simpa using hn) (hl.1.trans fx.2.2.1) rfl hw2 hd hf) kk
theorem am_callI (fx : am_F E C cc own nL ret R) {y : MethodName} {cc' : ByteArray} {nL' n idx a : Nat} {rm : Room} {As rest : List Value} (hd : decode cc pc = .ok (.invokespecial idx, 3)) (lk : am_mk own idx y cc' nL' none n ∧ y.name = "<init>" ∧ Cond.instanceMethod y ∈ am_G) (hM : am_Ct E y cc' nL' none rm (.ref a :: As) μ post) (hn : As.length = n) (hw : (rest.map fun v => v.category).sum ≤ 8) (hR : rm.frames + 1 ≤ R.frames ∧ 8 + (nL' + 11) + rm.locals ≤ R.locals) (hf : cl + rm.cells ≤ R.cells ∧ sl + rm.slots ≤ R.slots) (hst : st = As.reverse ++ .ref a :: rest)
    (kk : ∀ (v : Option Value) (μ' : am_M), post v μ' → am_W E C Q μ' (cl + rm.cells) (sl + rm.slots) (pc + 3) ls (v.toList ++ rest)) : am_W E C Q μ cl sl pc ls st := by
  intro H locs la hA hS hl
  subst hst
  obtain ⟨⟨hlk, hcode, hini, hy1, hy2, hpar⟩, hnm, hin⟩ := lk
  have hts := fx.2.2.2.2.1
  have hEq : cx_R C = R := fx.2.2.2.2.2.2.1
  have hp : PreS (cx_s C) H (am_Pc E (.ref a :: As) μ) (.ref (am_rho E a) :: As.map (am_tr E)) := ⟨am_Pc_blind, fun U hU hW => ⟨rfl, by rw [hU]; exact hA, fx.2.2.2.2.2.1.warm hW, by rw [hU]; exact Nat.le_trans fx.2.2.2.2.2.2.2.1 hS.1⟩⟩
  have hmap : (As.reverse ++ .ref a :: rest).map (am_tr E) = (As.map (am_tr E)).reverse ++ .ref (am_rho E a) :: rest.map (am_tr E) := by rw [List.map_append, List.map_reverse]; rfl
  rw [hmap]
  have hw2 : 2 * (F0 (cx_m C) pc la ((As.map (am_tr E)).reverse ++ .ref (am_rho E a) :: rest.map (am_tr E))).monitorRoom + ((rest.map (am_tr E)).map fun v => v.category).sum ≤ 8 := lv_room (by rw [List.map_map, show ((fun v : Value => v.category) ∘ am_tr E) = fun v => v.category from funext fun v => am_tr_cat E v]; exact hw)
  rw [← hEq] at hR hf
  rcases hlk with hlk | ⟨host, hlk⟩
  · refine am_back (a := (Value.ref (am_rho E a) :: As.map (am_tr E)).toArray) hS hl (va_runI (As := As.map (am_tr E)) (rest := rest.map (am_tr E)) (b := am_rho E a) (maxL := nL') (bytes := cc') (index := idx) (n := n) ⟨fx.1, fx.2.1, fx.2.2.1, fx.2.2.2.1, hts⟩ hM ⟨callB_of n hts (am_good hcode) rfl rfl rfl (hts _ hini) (hts _ hlk) ⟨hy1, hy2, hpar⟩ hR, hnm, hts _ hin⟩ hp rfl (by simpa using hn) (hl.1.trans fx.2.2.1) rfl hw2 hd hf) kk
  · refine am_back (a := (Value.ref (am_rho E a) :: As.map (am_tr E)).toArray) hS hl (va_runIN (As := As.map (am_tr E)) (rest := rest.map (am_tr E)) (b := am_rho E a) (maxL := nL') (bytes := cc') (index := idx) (n := n) (host := host) ⟨fx.1, fx.2.1, fx.2.2.1, fx.2.2.2.1, hts⟩ hM ⟨va_cnB n hts (am_good hcode) rfl rfl rfl (fx.2.2.2.2.2.1.2.1 _ hlk) (hts _ hini) ⟨hy1, hy2, hpar⟩ hR, hnm, hts _ hin⟩ hp rfl (by simpa using hn) (hl.1.trans fx.2.2.1) rfl hw2 hd hf) kk
theorem am_objInit (fx : am_F E C cc own nL ret R) {idx a : Nat} (hd : decode cc pc = .ok (.invokespecial idx, 3)) (h1 : Cond.methodLink own idx objectInit ∈ am_G) (h2 : Cond.instanceMethod objectInit ∈ am_G) (h3 : Cond.code objectInit ⟨#[0xb1]⟩ 1 none ∈ am_G) (hR : 1 ≤ R.frames ∧ (st.map fun v => v.category).sum + 12 ≤ R.locals) (kk : am_W E C Q μ cl sl (pc + 3) ls st) : am_W E C Q μ cl sl pc ls (.ref a :: st) := by
  intro H locs la hA hS hl
  have hts := fx.2.2.2.2.1
  have hEq : cx_R C = R := fx.2.2.2.2.2.2.1
  rw [← hEq] at hR
  refine W.objInit fx.1 fx.2.1 fx.2.2.2.1 (hts _ h1) (hts _ h2) (hts _ h3) rfl hl.1 rfl hd hR.1 ?_ (kk H locs la hA hS hl)
  have h := hR.2
  show 2 * 0 + ((st.map (am_tr E)).map fun v => v.category).sum + 12 ≤ _
  rw [List.map_map, show ((fun v : Value => v.category) ∘ am_tr E) = fun v => v.category from funext fun v => am_tr_cat E v]
  omega
theorem am_mmax (fx : am_F E C cc own nL ret R) {idx : Nat} {x y v : Int32} (hd : decode cc pc = .ok (.invokestatic idx, 3)) (h1 : Cond.methodLink own idx Lib.Math.max.name ∈ am_G) (h2 : Cond.static Lib.Math.max.name ∈ am_G) (h3 : Cond.initialized "java/lang/Math" ∈ am_G) (h4 : Cond.code Lib.Math.max.name Lib.Math.max.code 2 (some .int) ∈ am_G) (hR : 1 ≤ R.frames ∧ (st.map fun v => v.category).sum + 13 ≤ R.locals ∧ cl ≤ R.cells ∧ sl ≤ R.slots) (hv : (if x < y then y else x) = v) (kk : am_W E C Q μ cl sl (pc + 3) ls (.int v :: st)) : am_W E C Q μ cl sl pc ls (.int y :: .int x :: st) := by
  intro H locs la hA hS hl
  subst hv
  have hts := fx.2.2.2.2.1
  have hEq : cx_R C = R := fx.2.2.2.2.2.2.1
  rw [← hEq] at hR
  refine va_mmax fx.1 fx.2.1 hl.1.symm fx.2.2.2.1 (hts _ h1) (hts _ h2) (hts _ h3) (hts _ h4) hR.1 ?_ hR.2.2.1 hR.2.2.2 hd (kk H locs la hA hS hl)
  rw [List.map_map, show ((fun v : Value => v.category) ∘ am_tr E) = fun v => v.category from funext fun v => am_tr_cat E v]
  exact hR.2.1
theorem am_mmin (fx : am_F E C cc own nL ret R) {idx : Nat} {x y v : Int32} (hd : decode cc pc = .ok (.invokestatic idx, 3)) (h1 : Cond.methodLink own idx Lib.Math.min.name ∈ am_G) (h2 : Cond.static Lib.Math.min.name ∈ am_G) (h3 : Cond.initialized "java/lang/Math" ∈ am_G) (h4 : Cond.code Lib.Math.min.name Lib.Math.min.code 2 (some .int) ∈ am_G) (hR : 1 ≤ R.frames ∧ (st.map fun v => v.category).sum + 13 ≤ R.locals ∧ cl ≤ R.cells ∧ sl ≤ R.slots) (hv : (if y < x then y else x) = v) (kk : am_W E C Q μ cl sl (pc + 3) ls (.int v :: st)) : am_W E C Q μ cl sl pc ls (.int y :: .int x :: st) := by
  intro H locs la hA hS hl
  subst hv
  have hts := fx.2.2.2.2.1
  have hEq : cx_R C = R := fx.2.2.2.2.2.2.1
  rw [← hEq] at hR
  refine va_mmin fx.1 fx.2.1 hl.1.symm fx.2.2.2.1 (hts _ h1) (hts _ h2) (hts _ h3) (hts _ h4) hR.1 ?_ hR.2.2.1 hR.2.2.2 hd (kk H locs la hA hS hl)
  rw [List.map_map, show ((fun v : Value => v.category) ∘ am_tr E) = fun v => v.category from funext fun v => am_tr_cat E v]
  exact hR.2.1
theorem am_mabs (fx : am_F E C cc own nL ret R) {idx : Nat} {x v : Int32} (hd : decode cc pc = .ok (.invokestatic idx, 3)) (h1 : Cond.methodLink own idx Lib.Math.abs.name ∈ am_G) (h2 : Cond.static Lib.Math.abs.name ∈ am_G) (h3 : Cond.initialized "java/lang/Math" ∈ am_G) (h4 : Cond.code Lib.Math.abs.name Lib.Math.abs.code 1 (some .int) ∈ am_G) (hR : 1 ≤ R.frames ∧ (st.map fun v => v.category).sum + 13 ≤ R.locals ∧ cl ≤ R.cells ∧ sl ≤ R.slots) (hv : (if 0 ≤ x then x else 0 - x) = v) (kk : am_W E C Q μ cl sl (pc + 3) ls (.int v :: st)) : am_W E C Q μ cl sl pc ls (.int x :: st) := by
  intro H locs la hA hS hl
  subst hv
  have hts := fx.2.2.2.2.1
  have hEq : cx_R C = R := fx.2.2.2.2.2.2.1
  rw [← hEq] at hR
  refine va_mabs fx.1 fx.2.1 hl.1.symm fx.2.2.2.1 (hts _ h1) (hts _ h2) (hts _ h3) (hts _ h4) hR.1 ?_ hR.2.2.1 hR.2.2.2 hd (kk H locs la hA hS hl)
  rw [List.map_map, show ((fun v : Value => v.category) ∘ am_tr E) = fun v => v.category from funext fun v => am_tr_cat E v]
  exact hR.2.1
end AMX
