theorem am_inG2 {w : Cond} (h : w ∈ lw_tbl ∧ goodWord w = true) : w ∈ am_G := List.mem_filter.mpr h
/-! exceptions over the abstract memory -/
abbrev xaL : List Cond := vx_atS RX6 206 "java/lang/ArithmeticException" ["java/lang/RuntimeException", "java/lang/Exception"]
theorem xa_in : ∀ w ∈ xaL, w ∈ lw_tbl := by decide +kernel
theorem xa_ot : ∀ w ∈ Cond.classLink RX6 202 "java/lang/ArithmeticException" :: Cond.initialized "java/lang/ArithmeticException" :: xaL, vx_ot w = true := by decide +kernel
abbrev xaB : List Cond := [Cond.declares (Bundle.initS "java/lang/RuntimeException"), Cond.declares (Bundle.initS "java/lang/Exception"), Cond.declares (Bundle.initS Bundle.tN), Cond.castable "java/lang/ArithmeticException" "java/lang/ArithmeticException"]
theorem xa_bad : ∀ w ∈ xaL.filter (fun w => !goodWord w), w ∈ xaB := by decide +kernel
theorem xa_fit : Bundle.fit "java/lang/ArithmeticException" = true ∧ ∀ n ∈ ["java/lang/RuntimeException", "java/lang/Exception"], Bundle.fit n = true := by decide +kernel
theorem xk_cl : Cond.classLink RX6 202 "java/lang/ArithmeticException" ∈ am_G := am_inG2 (by decide +kernel)
theorem xk_ci : Cond.initialized "java/lang/ArithmeticException" ∈ am_G := am_inG2 (by decide +kernel)
theorem xk_lc : Cond.classLink RL 13 "java/lang/ArithmeticException" ∈ am_G := am_inG2 (by decide +kernel)
theorem xk_lm : Cond.codeWith yL_mean cL_mean 6 (some .int) [(0, 11, 14, 13)] ∈ am_G := am_inG2 (by decide +kernel)
def mm_bp (μ : am_M) (d : Nat) : am_M := (μ.1, μ.2.1, μ.2.2.1, μ.2.2.2.1, μ.2.2.2.2 + d)
theorem am_Ag.bump {E : am_E} {μ : am_M} {H H1 : Heap} (h : am_Ag E μ H) (hz : H.size ≤ H1.size) (hq : ∀ q : Nat, q < H.size → H1[q]? = H[q]?) : am_Ag E (mm_bp μ (H1.size - H.size)) H1 := by
  refine ⟨?_, ?_, fun n => (h.2.2 n).kept rfl (fun _ => rfl) (fun _ => rfl) (fun _ => rfl) (fun hn => hq _ ?_)⟩
  · show H1.size = am_rho E (mm_Z μ + (H1.size - H.size))
    rw [am_rho_add h.2.1, ← h.1]
    omega
  · show 0 < mm_Z μ + _
    have := h.2.1
    omega
  · have := am_lt h hn
    rw [h.1]
    exact (am_rho_lt ((h.2.2 n).1 hn) h.2.1).mpr this
theorem Kp.bp (μ : am_M) (d : Nat) : Kp μ (mm_bp μ d) := ⟨Nat.le_add_right _ _, fun _ _ => rfl, fun _ _ _ => rfl, fun _ _ _ => rfl, fun _ _ _ => rfl⟩
/-- what a throw needs of the machine -/
def am_X (E : am_E) (U : State) : Prop := E.1.stackTraces = false ∧ (∃ sa, vk_R RX6 204 "no runs have no mean" sa U) ∧ vx_Zq Bundle.tN "UNASSIGNED_STACK" Bundle.steD (am_A E) U U.heap ∧ vx_Zq Bundle.tN "SUPPRESSED_SENTINEL" Bundle.listD (am_A E) U U.heap ∧ va_Nw (.declares (Bundle.initS "java/lang/RuntimeException")) U ∧ va_Nw (.declares (Bundle.initS "java/lang/Exception")) U ∧ va_Nw (.declares (Bundle.initS Bundle.tN)) U ∧ va_Nw (.castable "java/lang/ArithmeticException" "java/lang/ArithmeticException") U
theorem am_X.moved {E : am_E} {s U : State} {locs : List Loc} (h : am_X E s) (hW : s.WarmedH U.vm) (hS : va_S (am_A E) s.heap U.heap locs) : am_X E U := by
  obtain ⟨h1, ⟨sa, h2⟩, h3, h4, h5, h6, h7, h8⟩ := h
  exact ⟨h1, ⟨sa, h2.warm hW⟩, (h3.moved hW.alike).kept hS.2.1, (h4.moved hW.alike).kept hS.2.1, va_Nw.warmD hW h5, va_Nw.warmD hW h6, va_Nw.warmD hW h7, va_Nw.warmC hW h8⟩
theorem am_X.same {E : am_E} {s U : State} (h : am_X E s) (hv : s.vm = U.vm) (hh : U.heap = s.heap) : am_X E U := by
  obtain ⟨h1, ⟨sa, h2⟩, h3, h4, h5, h6, h7, h8⟩ := h
  have ha : s.vm.Alike U.vm := by rw [hv]; exact Vm.Alike.refl U.vm
  exact ⟨h1, ⟨sa, h2.same hv.symm⟩, by rw [hh]; exact h3.moved ha, by rw [hh]; exact h4.moved ha, va_Nw.same rfl hv h5, va_Nw.same rfl hv h6, va_Nw.same rfl hv h7, va_Nw.same rfl hv h8⟩
def am_Px (E : am_E) (as : List Value) (μ : am_M) : Array Value → State → Prop := fun a U => am_Pc E as μ a U ∧ am_X E U
def am_XC (E : am_E) (μ : am_M) (P : Prop) : String → State → State → Prop := fun cls st t => cls = "java/lang/ArithmeticException" ∧ P ∧ (∃ d, am_Ag E (mm_bp μ d) t.heap) ∧ va_F (am_A E) st t
def am_CtX (E : am_E) (y : MethodName) (cc : ByteArray) (nL : Nat) (ret : Option FieldType) (rm : Room) (as : List Value) (μ : am_M) (post : Option Value → am_M → Prop) (P : Prop) : Prop := vx_Met E.1 y (Cond.code y cc nL ret :: am_G) rm (am_Px E as μ) (am_Qc E post) (am_XC E μ P) rm.cells rm.slots (am_A E)
abbrev am_MX (E : am_E) (C : am_C) (post : Option Value → am_M → Prop) (XC : String → State → State → Prop) (mc ms : Nat) : State → Prop := vx_MQ (cx_b C) (am_Qc E post) XC (cx_a C) (cx_s C) mc ms (am_A E)
theorem am_entry {E : am_E} {C : am_C} {nL : Nat} {as : List Value} {ls : List (Option Value)} (hml : (cx_c C).maxLocals = nL) (hl : (am_lay as).length ≤ nL) (hls : am_en nL as = ls) : am_ls E (entryFrame (cx_m C) (as.map (am_tr E)).toArray nL).locals (cx_c C).maxLocals ls := by
  have hlen : (lg_sl (as.map (am_tr E))).length ≤ nL := by rw [am_lay_len]; exact hl
  have hla := lv_entry (as.map (am_tr E)) (n := nL) hlen
  rw [lg_entry_eq]
  refine ⟨by rw [hml]; exact hla.1, hla.2.1, fun i v hi => ?_⟩
  subst hls
  have hi2 : (am_lay as)[i]? = some (some v) := by
    unfold am_en at hi
    by_cases h : i < (am_lay as).length
    · rwa [List.getElem?_append_left h] at hi
    · rw [List.getElem?_append_right (by omega), List.getElem?_replicate] at hi
      split at hi <;> cases hi
  have := am_lay_in E as 0 i v hi2
  rw [Nat.zero_add] at this
  exact hla.2.2 _ this
theorem am_CtX.of {E : am_E} {y : MethodName} {cc : ByteArray} {nL : Nat} {ret : Option FieldType} {rm : Room} {as : List Value} {μ : am_M} {post : Option Value → am_M → Prop} {P : Prop} {ls : List (Option Value)} (hy : plainName y.cls = true) (hl : (am_lay as).length ≤ nL) (hls : am_en nL as = ls)
    (body : ∀ C : am_C, am_F E C cc y.cls nL ret rm → (∀ x ∈ (cx_c C).exceptionTable.toList, False) → am_X E (cx_s C) → am_W E C (am_MX E C post (am_XC E μ P) rm.cells rm.slots) μ 0 0 0 ls []) : am_CtX E y cc nL ret rm as μ post P := by
  refine vx_ofW (cc := cc) (maxL := nL) (ret := ret) hy rfl ?_
  intro p e s m args below meth c s₁ B hml hno hv
  obtain ⟨⟨rfl, hAg, hK, hb⟩, hX⟩ := hv
  have hts := atoms_spec (ws := Cond.code y cc nL ret :: am_G) B.pre
  have hown : s.vm.findClass y.cls = some m.cls := findClass_of_methodNamed B.named
  have fx : am_F E (p, e, rm, s, m, (as.map (am_tr E)).toArray, below, meth, c) cc y.cls nL ret rm := ⟨B.exec, B.bytes, hml, hown, fun w hw => hts w (List.mem_cons_of_mem _ hw), hK, rfl, hb, B.returns, B.notSynchronized⟩
  have h9 := body _ fx hno hX s.heap [] _ hAg va_S.rf (am_entry (C := (p, e, rm, s, m, (as.map (am_tr E)).toArray, below, meth, c)) hml hl hls)
  have e9 : entryFrame m (as.map (am_tr E)).toArray nL = F0 m 0 (entryFrame m (as.map (am_tr E)).toArray nL).locals [] := by rw [lg_entry_eq]
  rw [e9]
  exact h9
section AMXX
variable {E : am_E} {C : am_C} {cc : ByteArray} {own : String} {nL : Nat} {ret : Option FieldType} {R : Room} {Q : State → Prop} {μ : am_M} {cl sl pc : Nat} {ls : List (Option Value)} {st : List Value} {post : Option Value → am_M → Prop}
theorem am_xr {XC : String → State → State → Prop} {mc ms : Nat} (k : am_W E C (am_MQ E C post mc ms) μ cl sl pc ls st) : am_W E C (am_MX E C post XC mc ms) μ cl sl pc ls st := fun H locs la hA hS hl => vx_ret (k H locs la hA hS hl)
theorem am_throw (fx : am_F E C cc RX6 nL ret R) (hno : ∀ x ∈ (cx_c C).exceptionTable.toList, False) (hX : am_X E (cx_s C)) {P : Prop} (hp : P) {mc ms : Nat} (d0 : decode cc pc = .ok (.new 202, 3)) (d3 : decode cc (pc + 3) = .ok (.dup, 1)) (d4 : decode cc (pc + 4) = .ok (.ldc 204, 2)) (d6 : decode cc (pc + 6) = .ok (.invokespecial 206, 3)) (d9 : decode cc (pc + 9) = .ok (.athrow, 1)) (hR : 5 < R.frames ∧ 82 ≤ R.locals ∧ cl + 1 ≤ R.cells ∧ sl + 6 ≤ R.slots) (hc : cl + 1 ≤ mc) (hs : sl + 6 ≤ ms) : am_W E C (am_MX E C post (am_XC E μ P) mc ms) μ cl sl pc ls [] := by
  intro H locs la hA hS hl
  have hEq : cx_R C = R := fx.2.2.2.2.2.2.1
  have hts := fx.2.2.2.2.1
  rw [← hEq] at hR
  obtain ⟨h1, ⟨sa, h2⟩, h3, h4, h5, h6, h7, h8⟩ := hX
  refine vx_throwS (own := RX6) (cls := "java/lang/ArithmeticException") (names := ["java/lang/RuntimeException", "java/lang/Exception"]) (A := am_A E) (sa := sa) (text := "no runs have no mean") fx.1 fx.2.1 h1 fx.2.2.2.1 xa_fit.1 xa_fit.2 (hts _ xk_cl) (hts _ xk_ci) h2 (vx_hat (B := xaB) (fun w hw => ?_) xa_bad (vx_c (va_Nw.use rfl h5) (vx_c (va_Nw.use rfl h6) (vx_c (va_Nw.use rfl h7) (vx_c (va_Nw.use rfl h8) vx_n))))) xa_ot h3 h4 hS hl.1 d0 d3 d4 d6 d9 (fun x hx => absurd (hno x hx) id) hR.1 hR.2.1 hR.2.2.1 hR.2.2.2 fx.2.2.2.2.2.2.2.2.2 (fun t _ hz hq => ⟨rfl, hp, ⟨_, hA.bump hz hq⟩, Nat.le_trans hS.1 hz, fun q g1 g2 => (hq q (Nat.lt_of_lt_of_le g1 hS.1)).trans (hS.2.1 q g1 g2)⟩) hS.2.2 hc hs
  obtain ⟨g1, g2⟩ := List.mem_filter.mp hw
  exact hts w (List.mem_filter.mpr ⟨xa_in w g1, g2⟩)
theorem am_Px_blind {as : List Value} : FrameBlind (am_Px E as μ) := fun a U g mk q => ⟨am_Pc_blind a U g mk q.1, q.2.same (s := U) (U := U.calling g mk a) rfl rfl⟩
/-- a call that may throw, caught by the one row of this method's table -/
theorem am_callVX (fx : am_F E C cc own nL ret R) {y : MethodName} {cc' : ByteArray} {nL' n idx a ci : Nat} {ret' : Option FieldType} {rm : Room} {As rest : List Value} {P : Prop} {x : ExceptionTableEntry} (hd : decode cc pc = .ok (.invokevirtual idx, 3)) (lk : (Cond.methodLink own idx y ∈ am_G ∧ Cond.code y cc' nL' ret' ∈ am_G ∧ Cond.initialized y.cls ∈ am_G ∧ (y.cls ≠ "java/lang/invoke/MethodHandle" ∧ y.cls ≠ "java/lang/invoke/VarHandle" ∧ (parseMethodDescriptor y.desc).map (fun d => d.parameters.length) = some n)) ∧ Cond.instanceMethod y ∈ am_G ∧ Cond.selects y.cls y y ∈ am_G) (hM : am_CtX E y cc' nL' ret' rm (.ref a :: As) μ post P) (hX : am_X E (cx_s C)) (hs : (mm_S μ a).1 = ci) (hc : ci < 8 ∧ (am_cl ci).1 = y.cls) (hn : As.length = n) (hw : (rest.map fun v => v.category).sum ≤ 8) (hR : rm.frames + 1 ≤ R.frames ∧ 8 + (nL' + 11) + rm.locals ≤ R.locals) (hf : cl + rm.cells ≤ R.cells ∧ sl + rm.slots ≤ R.slots) (hst : st = As.reverse ++ .ref a :: rest)
    (hT : (cx_c C).exceptionTable.toList = [x]) (hcv : covers x pc = true) (h0 : x.catchType ≠ 0) (hlk : Cond.classLink own x.catchType "java/lang/ArithmeticException" ∈ am_G)
    (kk : ∀ (v : Option Value) (μ' : am_M), post v μ' → am_W E C Q μ' (cl + rm.cells) (sl + rm.slots) (pc + 3) ls (v.toList ++ rest))
    (kx : ∀ (d : Nat) (q : Addr) (H : Heap) (locs : List Loc) (la : Array Slot), P → am_Ag E (mm_bp μ d) H → va_S (fun q => E.2.1.2 ≤ q) (cx_s C).heap H locs → am_ls E la (cx_c C).maxLocals ls → W (cx_p C) E.1 (cx_e C) (cx_R C) (cx_s C) (cx_m C) (cx_a C) (cx_b C) (cx_M C) (cx_c C) H locs (cl + rm.cells) (sl + rm.slots) Q (F0 (cx_m C) x.handlerPc la [.ref q])) : am_W E C Q μ cl sl pc ls st := by
  intro H locs la hA hS hl
  subst hst
  obtain ⟨⟨hlk2, hcode, hini, hy1, hy2, hpar⟩, hin, hsel⟩ := lk
  have hts := fx.2.2.2.2.1
  have hEq : cx_R C = R := fx.2.2.2.2.2.2.1
  have hat := (hA.2.2 a).2.1 (by rw [hs]; exact hc.1)
  rw [hs] at hat
  obtain ⟨cell, q1, q2, q3, q4⟩ := hat
  have hfc := (fx.2.2.2.2.2.1.1.1 ci _ (am_cl_at hc.1)).2.1
  have hp : PreV (cx_s C) H y.cls (am_rho E a) (am_Px E (.ref a :: As) μ) (As.map (am_tr E)) := ⟨am_Px_blind, ⟨cell, q1, by rw [q3]; rfl, by rw [q2, ← hc.2]; exact hfc⟩, fun U hU hW => ⟨⟨rfl, by rw [hU]; exact hA, fx.2.2.2.2.2.1.warm hW, by rw [hU]; exact Nat.le_trans fx.2.2.2.2.2.2.2.1 hS.1⟩, hX.moved hW (by rw [hU]; exact hS)⟩⟩
  have hmap : (As.reverse ++ .ref a :: rest).map (am_tr E) = (As.map (am_tr E)).reverse ++ .ref (am_rho E a) :: rest.map (am_tr E) := by rw [List.map_append, List.map_reverse]; rfl
  rw [hmap]
  have hw2 : 2 * (F0 (cx_m C) pc la ((As.map (am_tr E)).reverse ++ .ref (am_rho E a) :: rest.map (am_tr E))).monitorRoom + ((rest.map (am_tr E)).map fun v => v.category).sum ≤ 8 := lv_room (by rw [List.map_map, show ((fun v : Value => v.category) ∘ am_tr E) = fun v => v.category from funext fun v => am_tr_cat E v]; exact hw)
  rw [← hEq] at hR hf
  have hr := vx_runV (p := cx_p C) (l := E.1) (e := cx_e C) (below := cx_b C) (meth := cx_M C) (locs := locs) (cells := cl) (slots := sl) (H := H) (As := As.map (am_tr E)) (rest := rest.map (am_tr E)) (b := am_rho E a) (C := y.cls) (maxL := nL') (ret := ret') (bytes := cc') (index := idx) (n := n) (g := F0 (cx_m C) pc la ((As.map (am_tr E)).reverse ++ .ref (am_rho E a) :: rest.map (am_tr E))) ⟨fx.1, fx.2.1, fx.2.2.1, fx.2.2.2.1, hts⟩ hM ⟨callB_of n hts (am_good hcode) rfl rfl rfl (hts _ hini) (hts _ hlk2) ⟨hy1, hy2, hpar⟩ hR, hts _ hin, hts _ hsel⟩ hp rfl (by simpa using hn) (hl.1.trans fx.2.2.1) rfl hw2 hd hf
  intro T hT2 XX
  rcases hr T hT2 XX with ⟨v, st₀, t, T', L, g0, X', hL, e1, e2, ⟨⟨v', μ', hv, hp9, hA'⟩, hz, hk⟩, step⟩ | ⟨q, st₀, t, T', L, cls, ce, g0, X', hL, e1, e2, ⟨rfl, hP, ⟨d, hA'⟩, hz, hk⟩, hce, hcv9, hcl9, step⟩
  · cases hv
    rw [g0] at hz hk
    have hS' : va_S (am_A E) (cx_s C).heap T'.heap (locs ++ L) := ⟨Nat.le_trans hS.1 (by rw [e1]; exact hz), fun q h1 h2 => by rw [e1, hk q (Nat.lt_of_lt_of_le h1 hS.1) h2]; exact hS.2.1 q h1 h2, fun q hq => by
      rcases List.mem_append.mp hq with h | h
      · exact hS.2.2 q h
      · exact hL q h⟩
    obtain ⟨t2, a1, b1⟩ := kk v' μ' hp9 T'.heap (locs ++ L) la (by rw [e1]; exact hA') hS' hl T' rfl X'
    refine ⟨t2, step t2 ?_, b1⟩
    have e3 : (v'.map (am_tr E)).toList ++ rest.map (am_tr E) = (v'.toList ++ rest).map (am_tr E) := by cases v' <;> rfl
    rw [e3]
    exact a1
  · rw [g0] at hz hk
    have hS' : va_S (am_A E) (cx_s C).heap T'.heap (locs ++ L) := ⟨Nat.le_trans hS.1 (by rw [e1]; exact hz), fun q h1 h2 => by rw [e1, hk q (Nat.lt_of_lt_of_le h1 hS.1) h2]; exact hS.2.1 q h1 h2, fun q hq => by
      rcases List.mem_append.mp hq with h | h
      · exact hS.2.2 q h
      · exact hL q h⟩
    obtain ⟨-, -, -, -, -, -, -, h8⟩ := hX
    have hca := vx_catch (own := own) (name := "java/lang/ArithmeticException") (pc := pc) (ls := la) (rest := rest.map (am_tr E)) fx.2.2.2.1 [] x [] hT (fun z hz => nomatch hz) hcv h0 (hts _ hlk) (va_Nw.use rfl h8) (show T'.heap[q]? = some ce by rw [e1]; exact hce) hcv9 hcl9 (kx d q T'.heap (locs ++ L) la hP (by rw [e1]; exact hA') hS' hl)
    obtain ⟨t2, a1, b1⟩ := hca T' rfl X'
    exact ⟨t2, step.trans a1, b1⟩
end AMXX
set_option maxRecDepth 100000 in
set_option maxHeartbeats 1000000 in
theorem ct_X6_meanN {E : am_E} {μ : am_M} (hb : Bs μ) (hcu : mm_R μ 1 4 = none) (a n side : Int32) : am_CtX E yX6_mean cX6_mean 4 (some .long) rmX6_mean [.ref 1, .int a, .int n, .int side] μ (fun v μ' => v = some (.long (-9223372036854775808)) ∧ μ = μ') (False) := by
  refine am_CtX.of (ls := [some (.ref 1), some (.int a), some (.int n), some (.int side)]) (by decide) (Nat.le_of_ble_eq_true rfl) rfl (fun C fx hno hX => ?_)
  refine am_aload_n fx dX6_mean_0 rfl ?_
  refine am_getN fx dX6_mean_1 fkX6_39 (by decide) (by decide) rfl (so6 hb) hcu ?_
  refine am_ifnullN fx 44 dX6_mean_4 (by decide) ?_
  refine am_ldc2 fx dX6_mean_44 kdX6_138 ?_
  refine am_widen (k := (rmX6_mean).cells) (n := (rmX6_mean).slots) (by decide) (by decide) ?_
  exact am_xr (am_lret fx dX6_mean_47 ⟨rfl, rfl⟩)
set_option maxRecDepth 100000 in
set_option maxHeartbeats 1000000 in
theorem ct_X6_mean {E : am_E} {μ : am_M} (hb : Bs μ) {q L : Nat} (hr : Rc μ q L) {En Rd : Nat} (ha : Ra μ q En Rd) (hcu : mm_R μ 1 4 = some (q + 1)) (a n side : Int32) {rn : Nat → Nat} (hrn : ∀ s, s < En → mm_I μ (q + 16) s = nI (rn s) ∧ rn s ≤ 24) (hsm : ∀ s k, s < En → k ≤ rn s → ∃ A : Nat, A < 2 ^ 31 ∧ sm64 (tkn μ q s) k = lN A) : am_CtX E yX6_mean cX6_mean 4 (some .long) rmX6_mean [.ref 1, .int a, .int n, .int side] μ (fun v μ' => (¬ ((0 ≤ a ∧ a < nI En) ∧ (0 ≤ side ∧ side ≤ 1) ∧ (0 ≤ n ∧ n ≤ mm_I μ (q + 16) a.toNatClampNeg)) ∧ v = some (.long (-9223372036854775808)) ∧ μ = μ') ∨ (((0 ≤ a ∧ a < nI En) ∧ (0 ≤ side ∧ side ≤ 1) ∧ (0 ≤ n ∧ n ≤ mm_I μ (q + 16) a.toNatClampNeg)) ∧ ¬ n = 0 ∧ ∃ (a' n' A : Nat), a = nI a' ∧ n = nI n' ∧ a' < En ∧ n' ≤ rn a' ∧ 0 < n' ∧ A < 2 ^ 31 ∧ sm64 (tkn μ q a') n' = lN A ∧ v = some (.long (lN ((if side = 0 then A else n') / Nat.gcd A n'))) ∧ μ = μ')) (((0 ≤ a ∧ a < nI En) ∧ (0 ≤ side ∧ side ≤ 1) ∧ (0 ≤ n ∧ n ≤ mm_I μ (q + 16) a.toNatClampNeg)) ∧ n = 0) := by
  refine am_CtX.of (ls := [some (.ref 1), some (.int a), some (.int n), some (.int side)]) (by decide) (Nat.le_of_ble_eq_true rfl) rfl (fun C fx hno hX => ?_)
  have hE := ha.e
  have hR := ha.r
  refine am_aload_n fx dX6_mean_0 rfl ?_
  refine am_getR fx dX6_mean_1 fkX6_39 (by decide) (by decide) rfl (so6 hb) hcu ?_
  refine am_ifnull fx dX6_mean_4 ?_
  refine am_aload_n fx dX6_mean_7 rfl ?_
  refine am_getR fx dX6_mean_8 fkX6_39 (by decide) (by decide) rfl (so6 hb) hcu ?_
  refine am_iload_n fx dX6_mean_11 rfl ?_
  refine am_callV fx dX6_mean_12 mkX6_131 (ct_X2_isEntered hb hr ha _) (so2 hr) ⟨by decide, rfl⟩ rfl (Nat.le_of_ble_eq_true rfl) ⟨by decide, by decide⟩ ⟨Nat.le_of_ble_eq_true rfl, Nat.le_of_ble_eq_true rfl⟩ rfl ?_
  rintro _ _ ⟨rfl, rfl⟩
  refine am_if_eq fx 44 dX6_mean_15 (by decide) (fun c15 => ?_) (fun c15 => ?_)
  · try simp (disch := omega) only [bz_0, Classical.not_not, Int32.not_le, Int32.not_lt, Nat.not_le, Nat.not_lt, nI_leI, nI_ltI, nI_eq, nI_le0, nI_lt0] at c15
    refine am_ldc2 fx dX6_mean_44 kdX6_138 ?_
    refine am_widen (k := (rmX6_mean).cells) (n := (rmX6_mean).slots) (by decide) (by decide) ?_
    exact am_xr (am_lret fx dX6_mean_47 (Or.inl ⟨fun h => c15 h.1, rfl, rfl⟩))
  · try simp (disch := omega) only [bz_0, Classical.not_not, Int32.not_le, Int32.not_lt, Nat.not_le, Nat.not_lt, nI_leI, nI_ltI, nI_eq, nI_le0, nI_lt0] at c15
    refine am_iload_n fx dX6_mean_18 rfl ?_
    refine am_iconst (v := 0) fx dX6_mean_19 (by decide) ?_
    refine am_iconst (v := 1) fx dX6_mean_20 (by decide) ?_
    refine am_callS fx dX6_mean_21 mkX6_47 (ct_X6_isWithin hb _ _ _) rfl (Nat.le_of_ble_eq_true rfl) ⟨by decide, by decide⟩ ⟨Nat.le_of_ble_eq_true rfl, Nat.le_of_ble_eq_true rfl⟩ rfl ?_
    rintro _ _ ⟨rfl, rfl⟩
    refine am_if_eq fx 44 dX6_mean_24 (by decide) (fun c24 => ?_) (fun c24 => ?_)
    · try simp (disch := omega) only [bz_0, Classical.not_not, Int32.not_le, Int32.not_lt, Nat.not_le, Nat.not_lt, nI_leI, nI_ltI, nI_eq, nI_le0, nI_lt0] at c24
      refine am_ldc2 fx dX6_mean_44 kdX6_138 ?_
      refine am_widen (k := (rmX6_mean).cells) (n := (rmX6_mean).slots) (by decide) (by decide) ?_
      exact am_xr (am_lret fx dX6_mean_47 (Or.inl ⟨fun h => c24 h.2.1, rfl, rfl⟩))
    · try simp (disch := omega) only [bz_0, Classical.not_not, Int32.not_le, Int32.not_lt, Nat.not_le, Nat.not_lt, nI_leI, nI_ltI, nI_eq, nI_le0, nI_lt0] at c24
      have hc1 := c15
      obtain ⟨a', ha', rfl⟩ := nI_rg2 c15 (by omega)
      have hcl : (nI a').toNatClampNeg = a' := nI_clamp (by omega)
      refine am_iload_n fx dX6_mean_27 rfl ?_
      refine am_iconst (v := 0) fx dX6_mean_28 (by decide) ?_
      refine am_aload_n fx dX6_mean_29 rfl ?_
      refine am_getR fx dX6_mean_30 fkX6_39 (by decide) (by decide) rfl (so6 hb) hcu ?_
      refine am_getR fx dX6_mean_33 fkX6_199 (by decide) (by decide) rfl (so2 hr) (rf2_7 hr) ?_
      refine am_iload_n fx dX6_mean_36 rfl ?_
      refine am_iald (j := a') fx dX6_mean_37 (sa2_7 hr) rfl (by omega) (by decide) rfl ?_
      refine am_callS fx dX6_mean_38 mkX6_47 (ct_X6_isWithin hb _ _ _) rfl (Nat.le_of_ble_eq_true rfl) ⟨by decide, by decide⟩ ⟨Nat.le_of_ble_eq_true rfl, Nat.le_of_ble_eq_true rfl⟩ rfl ?_
      rintro _ _ ⟨rfl, rfl⟩
      refine am_if_ne fx 48 dX6_mean_41 (by decide) (fun c41 => ?_) (fun c41 => ?_)
      · skip
        have c41 := Classical.not_not.mp (fun z => c41 (bz_0.mpr z))
        have hco : ((0 ≤ nI a' ∧ nI a' < nI En) ∧ (0 ≤ side ∧ side ≤ 1) ∧ (0 ≤ n ∧ n ≤ mm_I μ (q + 16) (nI a').toNatClampNeg)) := ⟨hc1, c24, by rw [hcl]; exact c41⟩
        refine am_iload_n fx dX6_mean_48 rfl ?_
        refine am_if_ne fx 62 dX6_mean_49 (by decide) (fun c49 => ?_) (fun c49 => ?_)
        · skip
          rw [(hrn a' ha').1] at c41
          obtain ⟨n', hn', rfl⟩ := rg_le c41 (by have := (hrn a' ha').2; omega)
          have hrn2 := (hrn a' ha').2
          have hn0 : 0 < n' := by
            rcases Nat.eq_zero_or_pos n' with z | z
            · rw [z] at c49; exact absurd rfl c49
            · exact z
          obtain ⟨A, hA1, hA2⟩ := hsm a' n' ha' hn'
          refine am_aload_n fx dX6_mean_62 rfl ?_
          refine am_getR fx dX6_mean_63 fkX6_39 (by decide) (by decide) rfl (so6 hb) hcu ?_
          refine am_iload_n fx dX6_mean_66 rfl ?_
          refine am_iload_n fx dX6_mean_67 rfl ?_
          refine am_callV fx dX6_mean_68 mkX6_209 (ct_X2_sumOfFirst hb hr ha a' n' ha' (by rw [(hrn a' ha').1]; exact nI_le hn' (by omega)) (by omega)) (so2 hr) ⟨by decide, rfl⟩ rfl (Nat.le_of_ble_eq_true rfl) ⟨by decide, by decide⟩ ⟨Nat.le_of_ble_eq_true rfl, Nat.le_of_ble_eq_true rfl⟩ rfl ?_
          rintro _ _ ⟨rfl, rfl⟩
          rw [hA2]
          refine am_iload_n fx dX6_mean_71 rfl ?_
          refine am_i2l fx dX6_mean_72 (nI_l (by omega)) ?_
          refine am_iload_n fx dX6_mean_73 rfl ?_
          refine am_callS fx dX6_mean_74 mkX6_151 (ct_X6_lowestTerms (by omega) (by omega) hn0 _) rfl (Nat.le_of_ble_eq_true rfl) ⟨by decide, by decide⟩ ⟨Nat.le_of_ble_eq_true rfl, Nat.le_of_ble_eq_true rfl⟩ rfl ?_
          rintro _ _ ⟨rfl, rfl⟩
          refine am_widen (k := (rmX6_mean).cells) (n := (rmX6_mean).slots) (by decide) (by decide) ?_
          exact am_xr (am_lret fx dX6_mean_77 (Or.inr ⟨hco, c49, a', n', A, rfl, rfl, ha', hn', hn0, hA1, hA2, rfl, rfl⟩))
        · skip
          exact am_throw fx hno hX ⟨hco, c49⟩ dX6_mean_52 dX6_mean_55 dX6_mean_56 dX6_mean_58 dX6_mean_61 ⟨by decide, by decide, by decide, by decide⟩ (by decide) (by decide)
      · skip
        have c41 := bz_0.mp c41
        have hco : ¬ ((0 ≤ nI a' ∧ nI a' < nI En) ∧ (0 ≤ side ∧ side ≤ 1) ∧ (0 ≤ n ∧ n ≤ mm_I μ (q + 16) (nI a').toNatClampNeg)) := fun h => c41 (by have h2 := h.2.2; rw [hcl] at h2; exact h2)
        refine am_ldc2 fx dX6_mean_44 kdX6_138 ?_
        refine am_widen (k := (rmX6_mean).cells) (n := (rmX6_mean).slots) (by decide) (by decide) ?_
        exact am_xr (am_lret fx dX6_mean_47 (Or.inl ⟨hco, rfl, rfl⟩))
