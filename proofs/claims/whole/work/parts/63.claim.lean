/-! THE CLAIM OUT OF ONE WALK OF THE LAW'S BODY. Your part is whole_start (and what it stands on); all else here is the same for every law, but numbers. -/
def R_law : String := "RaceTuningLaw"
def lw_P (b : Addr) (xs : List Int32) (args : Array Value) (s : State) : Prop := args = #[.ref b] ∧ s.IntsAt b xs ∧ xs.length ≤ 4096 ∧ (Jvm.Cond.and given_1 narrow_1).before args s = true
def lw_Q (_ : Array Value) (s : State) (o : Outcome) (t : State) : Prop := o = .returned (some (.int 1)) ∧ Framed s o t [] 601024 7293034
def lw_Z (below : List Frame) (a : Array Value) (s : State) : State → Prop := fun t => ∃ o, t.status = .running ∧ Ended t below o ∧ lw_Q a s o t
/-- the law's own end, with 1 on the stack, nothing written that was there before, its room as the claim has it -/
theorem lw_ret {p : Program} {l : Launch} {e : Env} {s : State} {m : MethodId} {below : List Frame} {meth : Method} {c : Code} {b : Nat} (hx : p.tables.exec = Jvm.exec) (hb : c.code = code) (hr : meth.sig.returnType = ret) (hlocks : meth.locks = false) {pc : Nat} {H : Heap} {ls : Array Slot} (hdg : decode code pc = .ok (.ireturn, 1)) : W p l e room_1 s m #[Value.ref b] below meth c H [] 601024 7293034 (lw_Z below #[Value.ref b] s) (F0 m pc ls [.int 1]) := by
  intro T hT X
  obtain ⟨fs, hret, hrun, hended, hW, hframe⟩ := X.leave (v := some (.int 1)) (hlocks := hlocks) (fun h => by rw [hr] at h; cases h)
  have hmeth' : T.vm.method? m = some meth := X.method'
  refine ⟨T.setFrames fs, ?_, .returned (some (.int 1)), hrun, hended, rfl, ⟨_, rfl⟩, hW, hframe⟩
  jvm_step X.here [X.here.top, hx, hb, hdg, hmeth', hr, ret, narrow_b1]
  (try refine ⟨rfl, ?_⟩); (try refine ⟨rfl, ?_⟩)
  first | (intro acts; rw [hret _ acts rfl rfl rfl]) | rw [hret _ _ rfl rfl rfl]
  exact Steps.refl _
/-- what holds at the law's entry: the machine, the code, the tables' words (any of lw_tbl by 'hts w (by decide +kernel)'), the script of L ints xs at the cell b, what the Statement gives of the start (any of its parts by flat_of_before) -/
def lw_At (p : Program) (s : State) (m : MethodId) (meth : Method) (c : Code) (b L : Nat) (xs : Nat → Int32) : Prop :=
  p.tables.exec = Jvm.exec ∧ c.code = code ∧ meth.sig.returnType = ret ∧ c.maxLocals = 8 ∧ s.vm.findClass R_law = some m.cls ∧ (∀ w ∈ lw_tbl, w.before #[Value.ref b] s = true) ∧ va_X b L xs s s.heap ∧ b < s.heap.size ∧ meth.locks = false ∧ (Jvm.Cond.and given_1 narrow_1).before #[Value.ref b] s = true
theorem am_start {p : Program} {s : State} {m : MethodId} {meth : Method} {c : Code} {b L : Nat} {xs : Nat → Int32} (C0 : lw_At p s m meth c b L xs) : ∃ (D : va_G) (dA : Nat → ClassId), ∀ l : Launch, am_K (l, (b, s.heap.size), D, dA) s := by
  obtain ⟨hx, hb, hr, hml, hown, hts, hX, hbl, hlocks, hgv⟩ := C0
  have hG : ∀ w ∈ am_G, w.before #[Value.ref b] s = true := fun w hw => hts w (List.mem_filter.mp hw).1
  have hk : ∀ ci, ci < 8 → ∃ (cC : ClassId) (iS : Nat → Nat), u_Kn s (am_cl ci).1 (am_cl ci).2.1 (am_cl ci).2.2 cC iS := fun ci h => by
    have hin := am_inC h
    rcases (by omega : ci = 0 ∨ ci = 1 ∨ ci = 2 ∨ ci = 3 ∨ ci = 4 ∨ ci = 5 ∨ ci = 6 ∨ ci = 7) with z | z | z | z | z | z | z | z <;> subst z
    · exact u_known hG hin (hG _ ktX0)
    · exact u_known hG hin (hG _ ktX1)
    · exact u_known hG hin (hG _ ktX2)
    · exact u_known hG hin (hG _ ktX3)
    · exact u_known hG hin (hG _ ktX4)
    · exact u_known hG hin (hG _ ktX5)
    · exact u_known hG hin (hG _ ktX6)
    · exact u_known hG hin (hG _ ktX7)
  have hk2 : ∀ ci, ∃ q : ClassId × (Nat → Nat), ci < 8 → u_Kn s (am_cl ci).1 (am_cl ci).2.1 (am_cl ci).2.2 q.1 q.2 := fun ci => by
    by_cases h : ci < 8
    · obtain ⟨cC, iS, h1⟩ := hk ci h
      exact ⟨(cC, iS), fun _ => h1⟩
    · obtain ⟨cC, iS, h1⟩ := hk 0 (by decide)
      exact ⟨(cC, iS), fun z => absurd z h⟩
  obtain ⟨cI, kI, pI, i1, i2, i3⟩ := Cond.arrayClass_spec (hG _ kw_aint)
  obtain ⟨cL, kL, pL, l1, l2, l3⟩ := Cond.arrayClass_spec (hG _ kw_along)
  obtain ⟨cZ, kZ, pZ, z1, z2, z3⟩ := Cond.arrayClass_spec (hG _ kw_aboolean)
  have hov : (Cond.arrayOver (.array .int)).before #[Value.ref b] s = true := hts _ (by decide +kernel)
  obtain ⟨pA, cA, kA, -, a2, a3, a4⟩ := Cond.arrayOver_specA hov
  refine ⟨(fun ci => (Classical.choose (hk2 ci)).1, fun ci => (Classical.choose (hk2 ci)).2), fun k => if k = 0 then cI else if k = 1 then cL else if k = 2 then cZ else cA, fun l => ⟨⟨fun ci q hq => ?_, fun k q hq => ?_⟩, fun w hw => ?_, ?_⟩⟩
  · have h8 : ci < 8 := (List.getElem?_eq_some_iff.mp hq).1
    have e := (am_cl_at h8).symm.trans hq
    cases e
    exact Classical.choose_spec (hk2 ci) h8
  · have h4 : k < 4 := (List.getElem?_eq_some_iff.mp hq).1
    rcases (by omega : k = 0 ∨ k = 1 ∨ k = 2 ∨ k = 3) with z | z | z | z <;> subst z <;> cases hq
    · exact ⟨fun n z => ⟨fun k h => (by cases h), kI, i2, pI, i3⟩, i1⟩
    · exact ⟨fun n z => ⟨fun k h => (by cases h), kL, l2, pL, l3⟩, l1⟩
    · exact ⟨fun n z => ⟨fun k h => (by cases h), kZ, z2, pZ, z3⟩, z1⟩
    · exact ⟨fun n z => ⟨fun k h => (by cases h), kA, a2, pA, a3⟩, a4⟩
  · have h2 := hts w (List.mem_filter.mp hw).1
    have h3 := (List.mem_filter.mp hw).2
    cases w <;> first | (simp [am_isN] at h3; done) | exact va_Nw.of rfl h2
  · exact hov
theorem am_startX {p : Program} {s : State} {m : MethodId} {meth : Method} {c : Code} {b L : Nat} {xs : Nat → Int32} (C0 : lw_At p s m meth c b L xs) (l : Launch) (hst : l.stackTraces = false) (D : va_G) (dA : Nat → ClassId) : am_X (l, (b, s.heap.size), D, dA) s := by
  obtain ⟨hx, hb, hr, hml, hown, hts, hX, hbl, hlocks, hgv⟩ := C0
  have hs := flat_of_before _ hgv
  have hA : ∀ a : Nat, a < s.heap.size → ¬ am_A (l, (b, s.heap.size), D, dA) a := fun a h => Nat.not_le.mpr h
  obtain ⟨sa, sc, scell, sk, s1, -⟩ := Cond.exactly_spec (hs (Cond.exactly (.string "RaceTuning" 204) "java/lang/String") (by decide +kernel))
  refine ⟨hst, ⟨sa, vk_R.of (hts (Cond.stringRef "RaceTuning" 204 "no runs have no mean") (by decide +kernel)) s1⟩, vx_Zqof (hts _ (by decide +kernel)) (hts _ (by decide +kernel)) (hs _ (by decide +kernel)) hA, vx_Zqof (hts _ (by decide +kernel)) (hts _ (by decide +kernel)) (hs _ (by decide +kernel)) hA, va_Nw.of rfl (hts _ (by decide +kernel)), va_Nw.of rfl (hts _ (by decide +kernel)), va_Nw.of rfl (hts _ (by decide +kernel)), va_Nw.of rfl (hts _ (by decide +kernel))⟩
abbrev mu0 : am_M := (fun _ => (12, 0), fun _ _ => 0, fun _ _ => 0, fun _ _ => none, 1)
set_option maxRecDepth 100000 in
set_option maxHeartbeats 1000000 in
/-- from the entry, for every script of at most 4096 ints, the law comes to its end with true -/
theorem whole_start {p : Program} {e : Env} {s : State} {m : MethodId} {below : List Frame} {meth : Method} {c : Code} (l : Launch) (hst : l.stackTraces = false) {b L : Nat} {xs : Nat → Int32} (hL : L ≤ 4096) (C0 : lw_At p s m meth c b L xs) : W p l e room_1 s m #[Value.ref b] below meth c s.heap [] 0 0 (lw_Z below #[Value.ref b] s) (entryFrame m ([Value.ref b] : List Value).toArray 8) := by
  obtain ⟨D, dA, hK⟩ := am_start C0
  have hXX := am_startX C0 l hst D dA
  obtain ⟨hx, hb, hr, hml, hown, hts, hX, hbl, hlocks, hgv⟩ := C0
  have hG : ∀ w ∈ am_G, w.before #[Value.ref b] s = true := fun w hw => hts w (List.mem_filter.mp hw).1
  have fx : am_F (l, (b, s.heap.size), D, dA) (p, e, room_1, s, m, #[Value.ref b], below, meth, c) code RL 8 ret room_1 := ⟨hx, hb, hml, hown, hG, hK l, rfl, Nat.le_refl _, hr, hlocks⟩
  have hsc : am_sc (l, (b, s.heap.size), D, dA) (p, e, room_1, s, m, #[Value.ref b], below, meth, c) L xs := ⟨hX, hbl, Nat.not_le.mpr hbl⟩
  have hAg : am_Ag (l, (b, s.heap.size), D, dA) mu0 s.heap := ⟨rfl, by decide, fun n => am_at_none (by show 12 ≤ 12; decide)⟩
  have hend : ∀ (μ : am_M) (cl sl : Nat), cl ≤ 601024 → sl ≤ 7293034 → ∀ i, am_W (l, (b, s.heap.size), D, dA) (p, e, room_1, s, m, #[Value.ref b], below, meth, c) (lw_Z below #[Value.ref b] s) μ cl sl 775 (lw_ls i) [.int 1] := fun μ cl sl h1 h2 i H locs la hA hS hl => by
    refine va_forget (fun q hq => hS.2.2 q hq) ?_
    refine W.widen h1 h2 ?_
    exact lw_ret hx hb hr hlocks dL_law_775
  have K : am_W (l, (b, s.heap.size), D, dA) (p, e, room_1, s, m, #[Value.ref b], below, meth, c) (lw_Z below #[Value.ref b] s) mu0 0 0 0 [some (.ref 0), none, none, none, none, none, none, none] [] := by
    refine am_new fx dL_law_0 (ci := 6) (by decide) (N := 5) rfl klL_8 ktX6 knX6 (by decide) (by decide) (by decide) ?_
    show am_W _ _ _ _ _ _ _ _ [.ref 1]
    refine am_dup_ref fx dL_law_3 ?_
    refine am_callI fx dL_law_4 mkL_15 (ct_X6_init (μ := mm_nw mu0 6 0) rfl rfl) rfl (Nat.le_of_ble_eq_true rfl) ⟨by decide, by decide⟩ ⟨Nat.le_of_ble_eq_true rfl, Nat.le_of_ble_eq_true rfl⟩ rfl ?_
    rintro _ μ1 ⟨rfl, h6⟩
    have hz : mm_Z μ1 = 46 := h6.2.2.2.2.2.1
    refine am_astore_n fx dL_law_7 (by decide) rfl ?_
    refine am_new fx dL_law_8 (ci := 7) (by decide) (N := 34) rfl klL_16 ktX7 knX7 (by decide) (by decide) (by decide) ?_
    rw [hz]
    refine am_dup_ref fx dL_law_11 ?_
    refine am_callI fx dL_law_12 mkL_18 (ct_X7_init (μ := mm_nw μ1 7 0) (by rw [mZ_nw, hz]) (by rw [mS_nw, if_pos hz.symm])) rfl (Nat.le_of_ble_eq_true rfl) ⟨by decide, by decide⟩ ⟨Nat.le_of_ble_eq_true rfl, Nat.le_of_ble_eq_true rfl⟩ rfl ?_
    rintro _ μ2 ⟨rfl, k7, f0, f1, f2, f3, f4, f5, f6, f7, f8, f9, f10, f11, f12, f13, f14, f15, f16, f17, f18, z7, j1, j2, j6, j49⟩
    refine am_astore_n fx dL_law_15 (by decide) rfl ?_
    refine am_iconst (v := 1) fx dL_law_16 (by decide) ?_
    refine am_newarr (N := 1) fx dL_law_17 (Or.inr (Or.inl ⟨rfl, rfl⟩)) kw_along rfl (by decide) (by decide) (by decide) ?_
    rw [z7]
    refine am_astore_n fx dL_law_19 (by decide) rfl ?_
    refine am_iconst (v := 0) fx dL_law_20 (by decide) ?_
    refine am_istore fx dL_law_21 (by decide) rfl ?_
    refine am_widen (k := 56 + 20 * 0) (n := 3242 + 393 * 0) (by decide) (by decide) ?_
    exact law_loop fx hXX hsc hL hend 513 0 (mm_nw μ2 9 1) rfl (by omega) (J.st (st0_all h6 k7 z7 f0 f1 f2 f3 f4 f5 f6 f7 f8 f9 f10 f11 f12 f13 f14 f15 f16 f17 f18 j1 j2 j6 j49))
  have h9 := K s.heap [] _ hAg va_S.rf (am_entry (E := (l, (b, s.heap.size), D, dA)) (C := (p, e, room_1, s, m, #[Value.ref b], below, meth, c)) (as := [.ref 0]) hml (by decide) rfl)
  have e9 : entryFrame m ([Value.ref b] : List Value).toArray 8 = F0 m 0 (entryFrame m ([Value.ref b] : List Value).toArray 8).locals [] := by rw [lg_entry_eq]
  rw [e9]
  exact h9
set_option maxHeartbeats 4000000 in
theorem lw_walk (l : Launch) (hst : l.stackTraces = false) (b : Addr) (xs : List Int32) : MetFree l x (headSpec (Jvm.Cond.code x code maxLocals ret :: tables_1) room_1) (lw_P b xs) (fun _ _ _ _ _ => True) lw_Q := by
  refine MetFree.of_bodyS (code := code) (maxLocals := maxLocals) (ret := ret) (by decide) ?_ ?_
  · intro args s m h hn
    obtain ⟨meth, c, h1, h2, h3, h4, h5, h6, -, -⟩ := Cond.code_spec hn (atoms_spec (ws := Jvm.Cond.code x code maxLocals ret :: tables_1) h _ List.mem_cons_self)
    exact ⟨meth, c, h1, h2, h3, h4, h5, h6⟩
  · intro p e s m args below meth c s₁ B hml0 hP _
    obtain ⟨rfl, hx, hbd, hgv⟩ := hP
    obtain ⟨scr, harrAt, hlist, hof, hsmall⟩ := hx
    obtain ⟨hcb, hkn, -, -⟩ := State.arrayAt?_spec harrAt
    have hown : s.vm.findClass R_law = some m.cls := findClass_of_methodNamed B.named
    have hts0 : ∀ c ∈ (Jvm.Cond.code x code maxLocals ret :: tables_1), c.before #[Value.ref b] s = true := atoms_spec (ws := Jvm.Cond.code x code maxLocals ret :: tables_1) B.pre
    have hts : ∀ w ∈ lw_tbl, w.before #[Value.ref b] s = true := k2_hts_sels lw_privs (fun w hw => hts0 w (List.mem_cons_of_mem _ hw)) lw_privs_ok
    have hml : c.maxLocals = 8 := B.maxLocals_eq (hts0 _ List.mem_cons_self)
    have X₀ : Stand p l e room_1 s m #[Value.ref b] below meth c s₁ [] 0 0 := Stand.of_body B
    have hh0 : s₁.heap = s.heap := by rw [B.state]; rfl
    have hsz : scr.slots.size = xs.length := by rw [← Array.length_toList, hlist, List.length_map]
    have hval : ∀ j : Nat, j < xs.length → scr.slots[j]? = some (.int (xs.getD j 0)) := fun j hj => by
      rw [← Array.getElem?_toList, hlist]
      simp [hj]
    have hbl : b < s.heap.size := (Array.getElem?_eq_some_iff.mp hcb).1
    have hX : va_X b xs.length (fun j => xs.getD j 0) s s.heap := ⟨scr, hcb, hof, hkn, hsz, hval⟩
    have K : W p l e room_1 s m #[Value.ref b] below meth c s₁.heap [] 0 0 (lw_Z below #[Value.ref b] s) (entryFrame m ([Value.ref b] : List Value).toArray 8) := by
      rw [hh0]
      exact whole_start l hst hbd ⟨B.exec, B.bytes, B.returns, hml, hown, hts, hX, hbl, B.notSynchronized, hgv⟩
    obtain ⟨t, a1, o, b1, b2, b3⟩ := K s₁ rfl X₀
    exact ⟨t, o, a1, b1, b2, b3⟩
theorem lw_pre_spec {args : Array Value} {s : State} (h : (Jvm.Cond.and given_1 narrow_1).before args s = true) (hr : rest_1_c.before args s = true) : ∃ (b : Addr) (xs : List Int32), lw_P b xs args s := by
  have hs := flat_of_before _ h
  have hq := flat_of_before _ hr
  have hc : (Cond.count 1).before args s = true := hs _ (by decide +kernel)
  have harr : (Cond.arrayOf (.arg 0) .int).before args s = true := hs _ (by decide +kernel)
  have hle : (Cond.le (.length (.arg 0)) (.int 4096)).before args s = true := hs _ (by decide +kernel)
  have hlen : (Cond.isInt (.length (.arg 0))).before args s = true := hq _ (by decide +kernel)
  have hall : (Cond.all (.arg 0) (.isInt (.elem (.arg 0) (.index 0)))).before args s = true := hq _ (by decide +kernel)
  obtain ⟨b, xs, hb, hx⟩ := State.ints_of_pre rfl harr hlen hall
  have hsm : xs.length < 2 ^ 31 := hx.choose_spec.2.2.2
  have hev : (Term.length (.arg 0)).eval args s none [] s = some (.int xs.length.toInt32) := hx.length_eval hb
  have hv := Cond.le_ints hev (show (Term.int 4096).eval args s none [] s = some (.int 4096) from rfl)
  have hd : xs.length.toInt32 ≤ 4096 := by
    simpa [Cond.before, Cond.holds, hv] using hle
  have hN : xs.length ≤ 4096 := (Int32.ofNat_le_ofNat hsm (by decide)).mp (show Int32.ofNat xs.length ≤ Int32.ofNat 4096 from hd)
  exact ⟨b, xs, Cond.one_arg hc (show args[0]? = some (.ref b) from hb), hx, hN, h⟩
theorem lw_comes (l : Launch) (hst : l.stackTraces = false) : Comes l x (Jvm.Cond.code x code maxLocals ret :: tables_1) room_1 (fun tb e args s => Calls_1 tb e args s ∧ rest_1 tb e args s ∧ Pre_1 tb e args s)
    (fun _ _ args s o t => lw_Q args s o t) := by
  intro p e ha hc hk s m args below hf hfit hheap happ hpre
  obtain ⟨b, xs, hP⟩ := lw_pre_spec hpre.2.2 hpre.2.1
  obtain ⟨k, o, h1, h2, h3, hQ⟩ := lw_walk l hst b xs p e ha hc hk s m args below hf ((Spec.applies_iff_loose hf).mp happ).1 hP trivial
  exact ⟨k, o, h1, h2, h3, hQ⟩
theorem lw_frame {s t : State} {o : Outcome} {args : Array Value} (h : Framed s o t [] 601024 7293034) :
    Framed s o t (fieldLocs frame_1_writes args s ++ arrayLocs frame_1_arrays args s ++ staticLocs frame_1_statics s) 601024 7293034 := h
theorem lw_limb (L : Cond) (hL : ∀ (args : Array Value) (s t : State), L.after args s (.returned (some (.int 1))) t = true) :
    ArmFor flags0 classFile x code maxLocals ret World_1 tables_1 room_1 Calls_1 rest_1 Pre_1
      (fun tb e a s o t => postC L tb e a s o t ∧ Framed s o t (fieldLocs frame_1_writes a s ++ arrayLocs frame_1_arrays a s ++ staticLocs frame_1_statics s) 601024 7293034) := by
  intro l hfl _ _ p e ha hc hk s m args below hf hfit hheap happ hpre
  have hst : l.stackTraces = false := by
    unfold Launch.stackTraces
    rw [hfl]
    decide
  obtain ⟨k, o, h1, h2, h3, rfl, hF⟩ := lw_comes l hst p e ha hc hk s m args below hf hfit hheap happ hpre
  exact ⟨k, _, h1, h2, h3, hL args s _, lw_frame hF⟩
theorem i_vc : Claimed_1_1 ∧ Claimed_1_2 := ⟨lw_limb limb_1_1 (fun args s t => by simp [limb_1_1, Cond.after, Cond.holds, Cond.value]), lw_limb limb_1_2 (fun args s t => Cond.after_iff.mpr (by
  first | (rw [show limb_1_2 = Cond.eq .result (.int 1) from rfl, Cond.eq_ints (x := 1) (y := 1) rfl rfl]; simp; done) | (simp [limb_1_2, Cond.value, Term.eval]; done)))⟩
