/-! class and model answer alike: the plain calls -/
section JRX
variable {μ : am_M} {S N q L En Rd rn t up dn least : Nat} {od dF : Nat → Nat}
theorem JR.cu (h : JR μ S N q L En Rd rn t up dn least od dF) : mm_R μ 1 4 = some (q + 1) := h.1
theorem JR.rc (h : JR μ S N q L En Rd rn t up dn least od dF) : Rc μ q L := h.2.1
theorem JR.z (h : JR μ S N q L En Rd rn t up dn least od dF) : q + 20 ≤ mm_Z μ := h.2.2.1
theorem JR.a (h : JR μ S N q L En Rd rn t up dn least od dF) : Ra μ q En Rd := h.2.2.2.1
theorem JR.en (h : JR μ S N q L En Rd rn t up dn least od dF) : 0 < En ∧ En ≤ S ∧ Rd ≤ L := h.2.2.2.2.1
theorem JR.kd (h : JR μ S N q L En Rd rn t up dn least od dF) : mm_I μ q 0 = 0 ∨ mm_I μ q 0 = 1 := h.2.2.2.2.2.1
theorem JR.k6 (h : JR μ S N q L En Rd rn t up dn least od dF) : mm_I μ 46 6 = mm_I μ q 0 := h.2.2.2.2.2.2.2.1 0 (by decide)
theorem JR.k0 (h : JR μ S N q L En Rd rn t up dn least od dF) : 0 ≤ mm_I μ q 0 := by
  rcases h.kd with z | z <;> rw [z] <;> decide
theorem JR.mo (h : JR μ S N q L En Rd rn t up dn least od dF) (hT : JT μ S N) : Mo μ En Rd L od (mm_I μ (q + 15)) := by
  obtain ⟨h1, h2, h3, h4, h5, h6, h7, h8, h9, h10, h11, h12, h13, h14, h15, h16, h17, h18, h19⟩ := h
  have := hT.t.n
  exact ⟨h9.1, h9.2.2, h9.2.1, h4.e, h5.2.2, h2.l, fun i hi => ⟨(h10 i hi).2.1, by have := (h10 i hi).2.2; omega⟩, fun s hs => (h11 s hs).2.1⟩
theorem JR.tk (h : JR μ S N q L En Rd rn t up dn least od dF) : ∀ s r, s < En → r < ruF dF Rd t s → mm_I μ (q + 3 + s) r = mm_I μ (4 + s) (od r) ∧ ¬ mm_I μ (4 + s) (od r) = -1 := h.2.2.2.2.2.2.2.2.2.2.2.2.2.2.2.2.2.2
theorem JR.ran (h : JR μ S N q L En Rd rn t up dn least od dF) : ∀ s, s < En → mm_I μ (q + 16) s = nI (ruF dF Rd t s) := h.2.2.2.2.2.2.2.2.2.2.2.2.2.2.2.2.2.1
theorem JR.rem (h : JR μ S N q L En Rd rn t up dn least od dF) : mm_I μ (q + 1) 10 = nI (cnt (lfC μ q) En) := h.2.2.2.2.2.2.2.2.2.2.2.2.2.2.2.2.1
theorem JR.tn (h : JR μ S N q L En Rd rn t up dn least od dF) : mm_I μ (q + 1) 11 = nI t ∧ mm_I μ 46 18 = nI t ∧ t < En ∧ dF t = 0 := h.2.2.2.2.2.2.2.2.2.2.2.2.2.2.2.1
theorem JR.ov (h : JR μ S N q L En Rd rn t up dn least od dF) : mm_I μ 46 17 = mm_I μ (q + 1) 14 ∧ (mm_I μ (q + 1) 14 = 0 → Rd < L) ∧ (¬ mm_I μ (q + 1) 14 = 0 → ∀ s, s < t → ¬ dF s = 0) := ⟨h.2.2.2.2.2.2.2.2.2.2.2.2.1, h.2.2.2.2.2.2.2.2.2.2.2.2.2.1, h.2.2.2.2.2.2.2.2.2.2.2.2.2.2.1⟩
theorem JR.rs (h : JR μ S N q L En Rd rn t up dn least od dF) : mm_I μ (q + 1) 13 = nI rn ∧ mm_I μ 46 16 = nI rn ∧ rn ≤ 12 * Rd + t := h.2.2.2.2.2.2.2.2.2.2.2.1
theorem JR.dr (h : JR μ S N q L En Rd rn t up dn least od dF) : ∀ s, s < 12 → mm_I μ (q + 15) s = nI (dF s) ∧ mm_I μ 51 s = mm_I μ (q + 15) s ∧ dF s ≤ Rd := h.2.2.2.2.2.2.2.2.2.2.1
theorem JR.or (h : JR μ S N q L En Rd rn t up dn least od dF) : ∀ i, i < L → mm_I μ (q + 19) i = nI (od i) ∧ mm_I μ 50 i = nI (od i) ∧ od i < N := h.2.2.2.2.2.2.2.2.2.1
theorem JR.ru (h : JR μ S N q L En Rd rn t up dn least od dF) : mm_I μ q 2 = nI up ∧ mm_I μ q 3 = nI dn ∧ mm_I μ q 4 = nI least ∧ up ≤ 1000 ∧ dn ≤ 1000 ∧ 1 ≤ least ∧ least ≤ 12 := h.2.2.2.2.2.2.1
theorem JR.k (h : JR μ S N q L En Rd rn t up dn least od dF) : ∀ k, k < 6 → mm_I μ 46 (6 + k) = mm_I μ q k := h.2.2.2.2.2.2.2.1
theorem JR.z0 (h : JR μ S N q L En Rd rn t up dn least od dF) (hR : Rd ≤ 24) {s : Nat} (hs : s < 12) : mm_I μ (q + 15) s = 0 ↔ dF s = 0 := by
  have h1 := h.dr s hs
  rw [h1.1]
  exact nI_eq (b := 0) (by omega) (by decide)
theorem JR.r24 (h : JR μ S N q L En Rd rn t up dn least od dF) : Rd ≤ 24 := h.a.r
theorem JR.rdl (h : JR μ S N q L En Rd rn t up dn least od dF) {s : Nat} (hs : s < 12) (hz : mm_I μ (q + 15) s = 0) : Rd ≤ ruF dF Rd t s := by
  have := (h.z0 h.r24 hs).mp hz
  unfold ruF
  rw [if_pos this]
  split <;> omega
theorem JR.rk (h : JR μ S N q L En Rd rn t up dn least od dF) {s : Nat} (hs : s < En) (hz : mm_I μ (q + 15) s = 0) : rkN (lft μ q) (tkn μ q) Rd s En = rkN (fun s => decide (mm_I μ (q + 15) s = 0)) (fun s r => cst μ s (od r)) Rd s En := by
  have hE := h.a.e
  refine rkN_cg (fun r hr => (h.tk s r hs (Nat.lt_of_lt_of_le hr (h.rdl (by omega) hz))).1) (fun o ho hlo r hr => (h.tk o r ho (Nat.lt_of_lt_of_le hr (h.rdl (by omega) (of_decide_eq_true hlo)))).1)
end JRX
theorem jo_wants {E : am_E} {μ : am_M} (hJ : J μ) (x : Int32) : am_Ct E yX6_wants cX6_wants 2 (some .int) rmX6_wants [.ref 1, .int x] μ (fun v μ' => ∃ a, v = some (.int a) ∧ Bs μ' ∧ am_Ct E yX7_wants cX7_wants 2 (some .int) rmX7_wants [.ref 46, .int x] μ' (fun v' μ'' => v' = some (.int a) ∧ J μ'')) := by
  obtain ⟨S, N, hT, ⟨h1, h2⟩ | ⟨q, L, En, Rd, rn, t, up, dn, least, od, dF, hR⟩⟩ := hJ
  · refine (ct_X6_wantsN hT.b h1 x).post ?_
    rintro _ _ ⟨rfl, rfl⟩
    refine ⟨_, rfl, hT.b, (ct_X7_wantsN hT.b h2 x).post ?_⟩
    rintro _ _ ⟨rfl, rfl⟩
    exact ⟨rfl, J.no hT h1 h2 (Qq.th _ _ _)⟩
  · refine (ct_X6_wants hT.b hR.rc hR.a hR.cu x).post ?_
    rintro _ _ ⟨rfl, rfl⟩
    refine ⟨_, rfl, hT.b, (ct_X7_wants hT.b (hR.mo hT) hR.k6 hR.k0 hR.ov.1 hR.tn.2.1 hR.ov.2.1 x).post ?_⟩
    rintro _ _ ⟨rfl, rfl⟩
    refine ⟨congrArg (fun z => some (Value.int z)) ?_, J.ra hT hR (Qq.th _ _ _)⟩
    by_cases c1 : 0 ≤ x ∧ x ≤ 1
    · rw [if_pos c1, if_pos c1]
      by_cases c2 : mm_I μ (q + 1) 14 = 0
      · rw [if_pos c2, if_pos c2, hR.tn.1]
        by_cases c3 : x = 0
        · rw [if_pos c3, if_pos c3]
        · have h3 := hR.ov.2.1 c2
          have h4 := hR.rc.l
          rw [if_neg c3, if_neg c3, if_pos ⟨nI_pos' (by omega), nI_lt h3 (by omega)⟩, nI_clamp (by omega)]
          exact (hR.or Rd h3).1.symm
      · rw [if_neg c2, if_neg c2]
    · rw [if_neg c1, if_neg c1]
theorem jo_left {E : am_E} {μ : am_M} (hJ : J μ) (x : Int32) : am_Ct E yX6_left cX6_left 2 (some .int) rmX6_left [.ref 1, .int x] μ (fun v μ' => ∃ a, v = some (.int a) ∧ Bs μ' ∧ am_Ct E yX7_left cX7_left 4 (some .int) rmX7_left [.ref 46, .int x] μ' (fun v' μ'' => v' = some (.int a) ∧ J μ'')) := by
  obtain ⟨S, N, hT, ⟨h1, h2⟩ | ⟨q, L, En, Rd, rn, t, up, dn, least, od, dF, hR⟩⟩ := hJ
  · refine (ct_X6_leftN hT.b h1 x).post ?_
    rintro _ _ ⟨rfl, rfl⟩
    refine ⟨_, rfl, hT.b, (ct_X7_leftN hT.b h2 x).post ?_⟩
    rintro _ _ ⟨rfl, rfl⟩
    exact ⟨rfl, J.no hT h1 h2 (Qq.th _ _ _)⟩
  · refine (ct_X6_left hT.b hR.rc hR.a hR.cu x).post ?_
    rintro _ _ ⟨rfl, rfl⟩
    refine ⟨_, rfl, hT.b, (ct_X7_left hT.b (hR.mo hT) hR.k6 hR.k0 x).post ?_⟩
    rintro _ _ ⟨rfl, rfl⟩
    refine ⟨?_, J.ra hT hR (Qq.th _ _ _)⟩
    rw [hR.rem]
theorem jo_rank {E : am_E} {μ : am_M} (hJ : J μ) (x : Int32) : am_Ct E yX6_rank cX6_rank 2 (some .int) rmX6_rank [.ref 1, .int x] μ (fun v μ' => ∃ a, v = some (.int a) ∧ Bs μ' ∧ am_Ct E yX7_rank cX7_rank 2 (some .int) rmX7_rank [.ref 46, .int x] μ' (fun v' μ'' => v' = some (.int a) ∧ J μ'')) := by
  obtain ⟨S, N, hT, ⟨h1, h2⟩ | ⟨q, L, En, Rd, rn, t, up, dn, least, od, dF, hR⟩⟩ := hJ
  · refine (ct_X6_rankN hT.b h1 x).post ?_
    rintro _ _ ⟨rfl, rfl⟩
    refine ⟨_, rfl, hT.b, (ct_X7_rankN hT.b h2 x).post ?_⟩
    rintro _ _ ⟨rfl, rfl⟩
    exact ⟨rfl, J.no hT h1 h2 (Qq.th _ _ _)⟩
  · refine (ct_X6_rank hT.b hR.rc hR.a hR.cu x).post ?_
    rintro _ _ ⟨rfl, rfl⟩
    refine ⟨_, rfl, hT.b, (ct_X7_rank hT.b (hR.mo hT) hT.m hR.k6 hR.k0 x).post ?_⟩
    rintro _ _ ⟨rfl, rfl⟩
    refine ⟨congrArg (fun z => some (Value.int z)) ?_, J.ra hT hR (Qq.th _ _ _)⟩
    have hE := hR.a.e
    by_cases c1 : (0 ≤ x ∧ x < nI En) ∧ mm_I μ (q + 15) x.toNatClampNeg = 0
    · rw [if_pos c1, if_pos c1]
      obtain ⟨j, hj, rfl⟩ := nI_rg2 c1.1 (by omega)
      rw [nI_clamp (by omega)] at c1 ⊢
      exact congrArg nI (hR.rk hj c1.2).symm
    · rw [if_neg c1, if_neg c1]
theorem jo_dropped {E : am_E} {μ : am_M} (hJ : J μ) (x : Int32) : am_Ct E yX6_dropped cX6_dropped 2 (some .int) rmX6_dropped [.ref 1, .int x] μ (fun v μ' => ∃ a, v = some (.int a) ∧ Bs μ' ∧ am_Ct E yX7_dropped cX7_dropped 2 (some .int) rmX7_dropped [.ref 46, .int x] μ' (fun v' μ'' => v' = some (.int a) ∧ J μ'')) := by
  obtain ⟨S, N, hT, ⟨h1, h2⟩ | ⟨q, L, En, Rd, rn, t, up, dn, least, od, dF, hR⟩⟩ := hJ
  · refine (ct_X6_droppedN hT.b h1 x).post ?_
    rintro _ _ ⟨rfl, rfl⟩
    refine ⟨_, rfl, hT.b, (ct_X7_droppedN hT.b h2 x).post ?_⟩
    rintro _ _ ⟨rfl, rfl⟩
    exact ⟨rfl, J.no hT h1 h2 (Qq.th _ _ _)⟩
  · refine (ct_X6_dropped hT.b hR.rc hR.a hR.cu x).post ?_
    rintro _ _ ⟨rfl, rfl⟩
    refine ⟨_, rfl, hT.b, (ct_X7_dropped hT.b (hR.mo hT) hR.k6 hR.k0 x).post ?_⟩
    rintro _ _ ⟨rfl, rfl⟩
    exact ⟨rfl, J.ra hT hR (Qq.th _ _ _)⟩
theorem jo_raceOf {E : am_E} {μ : am_M} (hJ : J μ) (x : Int32) : am_Ct E yX6_raceOf cX6_raceOf 2 (some .int) rmX6_raceOf [.ref 1, .int x] μ (fun v μ' => ∃ a, v = some (.int a) ∧ Bs μ' ∧ am_Ct E yX7_raceOf cX7_raceOf 2 (some .int) rmX7_raceOf [.ref 46, .int x] μ' (fun v' μ'' => v' = some (.int a) ∧ J μ'')) := by
  obtain ⟨S, N, hT, ⟨h1, h2⟩ | ⟨q, L, En, Rd, rn, t, up, dn, least, od, dF, hR⟩⟩ := hJ
  · refine (ct_X6_raceOfN hT.b h1 x).post ?_
    rintro _ _ ⟨rfl, rfl⟩
    refine ⟨_, rfl, hT.b, (ct_X7_raceOfN hT.b h2 x).post ?_⟩
    rintro _ _ ⟨rfl, rfl⟩
    exact ⟨rfl, J.no hT h1 h2 (Qq.th _ _ _)⟩
  · have hE := hR.a.e
    have hL := hR.rc.l
    have hq := hR.rc.qq
    have key : ∀ {a : Int32} {ν : am_M}, Qq q μ ν → (∀ k, mm_I ν 49 k = mm_I μ 49 k) → (∀ k, mm_I ν 50 k = mm_I μ 50 k) → (∀ k, mm_I ν 51 k = mm_I μ 51 k) → a = (if 0 ≤ x ∧ x ≤ 4 then (if x = 0 then mm_I μ (q + 1) 14 else if x = 1 then nI Rd else if x = 2 then nI rn else if x = 3 then enO (-1) (am1 (fun s => decide (mm_I μ (q + 15) s = 0)) (fun x => nI (rkN (fun s => decide (mm_I μ (q + 15) s = 0)) (fun s r => cst μ s (od r)) Rd x En)) En) else nI En - nI (cnt (fun s => decide (mm_I μ (q + 15) s = 0)) En)) else -2) → ∃ b, some (Value.int a) = some (Value.int b) ∧ Bs ν ∧ am_Ct E yX7_raceOf cX7_raceOf 2 (some .int) rmX7_raceOf [.ref 46, .int x] ν (fun v' μ'' => v' = some (.int b) ∧ J μ'') := fun {a ν} hQ e49 e50 e51 ha => by
      have e46 : ∀ k, k ≠ 0 → k < 21 → mm_I ν 46 k = mm_I μ 46 k := hQ.2.2
      refine ⟨_, rfl, hT.b.fr hQ.1, (ct_X7_raceOf (hT.b.fr hQ.1) ((hR.mo hT).keep (e46 12 (by decide) (by decide)) (e46 15 (by decide) (by decide)) (e46 13 (by decide) (by decide)) e50 e51) (hT.m.keep (e46 1 (by decide) (by decide)) (e46 2 (by decide) (by decide)) e49) ((e46 6 (by decide) (by decide)).trans hR.k6) hR.k0 ((e46 17 (by decide) (by decide)).trans hR.ov.1) ((e46 16 (by decide) (by decide)).trans hR.rs.2.1) x).post ?_⟩
      rintro _ _ (⟨c, rfl, rfl⟩ | ⟨c, rfl, rfl⟩)
      · rw [if_neg c] at ha
        subst ha
        exact ⟨rfl, J.ra hT hR (hQ.tr (Qq.th _ _ _))⟩
      · rw [if_pos c] at ha
        subst ha
        exact ⟨rfl, J.ra hT hR (hQ.tr (Qq.th _ _ _))⟩
    refine (ct_X6_raceOf hT.b hR.rc hR.a hR.cu x).post ?_
    rintro v μ' (⟨c, rfl, rfl⟩ | ⟨c, ⟨rfl, rfl, rfl⟩ | ⟨rfl, rfl, rfl⟩ | ⟨rfl, rfl, rfl⟩ | ⟨rfl, A, rfl, hs, hA, hm, hl⟩ | ⟨rfl, rfl, rfl⟩⟩)
    · exact key (Qq.rf _ _) (fun _ => rfl) (fun _ => rfl) (fun _ => rfl) (by rw [if_neg c])
    · exact key (Qq.rf _ _) (fun _ => rfl) (fun _ => rfl) (fun _ => rfl) (by rw [if_pos c, if_pos (by decide)])
    · exact key (Qq.rf _ _) (fun _ => rfl) (fun _ => rfl) (fun _ => rfl) (by rw [if_pos c, if_neg (by decide), if_pos (by decide)])
    · exact key (Qq.rf _ _) (fun _ => rfl) (fun _ => rfl) (fun _ => rfl) (by rw [if_pos c, if_neg (by decide), if_neg (by decide), if_pos (by decide), hR.rs.1])
    · refine key (Qq.sm hs (fun a ha => by unfold Sar at ha; unfold Sq; omega) (by unfold Sar; omega)) (fun k => hs.2.1 _ _ (by unfold Sar; omega)) (fun k => hs.2.1 _ _ (by unfold Sar; omega)) (fun k => hs.2.1 _ _ (by unfold Sar; omega)) ?_
      rw [if_pos c, if_neg (by decide), if_neg (by decide), if_neg (by decide), if_pos (by decide)]
      have e1 : am1 (fun s => decide (mm_I μ (q + 15) s = 0)) (fun s => nI (rkF μ q Rd En s)) En = A.head? := am_head hA (fun s => by rw [hm s]; simp) (fun s => Nat.lt_of_le_of_lt (rkN_top _ _ hR.r24 hE) (by decide))
      rw [← e1]
      exact congrArg (enO (-1)) (am1_congr (fun j hj => ⟨rfl, fun h => congrArg nI (hR.rk hj (of_decide_eq_true h))⟩))
    · exact key (Qq.rf _ _) (fun _ => rfl) (fun _ => rfl) (fun _ => rfl) (by rw [if_pos c, if_neg (by decide), if_neg (by decide), if_neg (by decide), if_neg (by decide), hR.rem])
theorem jo_pick {E : am_E} {μ : am_M} (hJ : J μ) (x : Int32) : am_Ct E yX6_pick cX6_pick 3 (some .int) rmX6_pick [.ref 1, .int x] μ (fun v μ' => ∃ a, v = some (.int a) ∧ Bs μ' ∧ am_Ct E yX7_pick cX7_pick 2 (some .int) rmX7_pick [.ref 46, .int x] μ' (fun v' μ'' => v' = some (.int a) ∧ J μ'')) := by
  have hJ0 := hJ
  obtain ⟨S, N, hT, _⟩ := hJ0
  have hN := hT.t.n
  refine (ct_X6_pick hT.b hT.t hT.v x).post ?_
  rintro _ _ (⟨c, rfl, rfl⟩ | ⟨i, hi, rfl, rfl, rfl⟩)
  · refine ⟨_, rfl, hT.b, (ct_X7_pick hT.b hT.m hT.h hT.f x).post ?_⟩
    rintro _ _ (⟨c2, rfl, rfl⟩ | ⟨i, hi, rfl, rfl, rfl⟩)
    · exact ⟨rfl, hJ.any (fun q _ => Qq.th _ _ _)⟩
    · exact absurd ⟨nI_pos' (by omega), nI_lt hi (by omega)⟩ c
  · refine ⟨_, rfl, hT.b, (ct_X7_pick hT.b hT.m hT.h hT.f (nI i)).post ?_⟩
    rintro _ _ (⟨c2, rfl, rfl⟩ | ⟨i2, hi2, he, rfl, rfl⟩)
    · exact absurd ⟨nI_pos' (by omega), nI_lt hi (by omega)⟩ c2
    · have := (nI_eq (by omega) (by omega)).mp he
      subst this
      exact ⟨by rw [hT.pk hi], hJ.any (fun q _ => Qq.th _ _ _)⟩
theorem jo_costOf {E : am_E} {μ : am_M} (hJ : J μ) (x y : Int32) : am_Ct E yX6_costOf cX6_costOf 4 (some .int) rmX6_costOf [.ref 1, .int x, .int y] μ (fun v μ' => ∃ a, v = some (.int a) ∧ Bs μ' ∧ am_Ct E yX7_costOf cX7_costOf 3 (some .int) rmX7_costOf [.ref 46, .int x, .int y] μ' (fun v' μ'' => v' = some (.int a) ∧ J μ'')) := by
  have hJ0 := hJ
  obtain ⟨S, N, hT, _⟩ := hJ0
  have hN := hT.t.n
  have hS := hT.t.s
  refine (ct_X6_costOf hT.b hT.t x y).post ?_
  rintro _ _ ⟨rfl, rfl⟩
  refine ⟨_, rfl, hT.b, (ct_X7_costOf hT.b hT.m x y).post ?_⟩
  rintro _ _ (⟨c2, rfl, rfl⟩ | ⟨s, i, hs, hi, rfl, rfl, rfl, rfl⟩)
  · exact ⟨by rw [if_neg c2], hJ.any (fun q _ => Qq.th _ _ _)⟩
  · refine ⟨?_, hJ.any (fun q _ => Qq.th _ _ _)⟩
    have c : (0 ≤ nI s ∧ nI s < nI S) ∧ (0 ≤ nI i ∧ nI i < nI N) := ⟨⟨nI_pos' (by omega), nI_lt hs (by omega)⟩, nI_pos' (by omega), nI_lt hi (by omega)⟩
    rw [if_pos c, co_in hs hi hS hN]
