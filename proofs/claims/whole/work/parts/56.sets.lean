/-! class and model answer alike: odds, stump, portfolio -/
theorem JR.rul {μ : am_M} {S N q L En Rd rn t up dn least : Nat} {od dF : Nat → Nat} (h : JR μ S N q L En Rd rn t up dn least od dF) (s : Nat) : ruF dF Rd t s ≤ L ∨ Rd < dF s := by
  have h5 := h.en
  have hv := h.ov
  unfold ruF
  by_cases h0 : dF s = 0
  · rw [if_pos h0]
    by_cases hst : s < t
    · rw [if_pos hst]
      by_cases ho : mm_I μ (q + 1) 14 = 0
      · have := hv.2.1 ho
        exact Or.inl (by omega)
      · exact absurd h0 (hv.2.2 ho s hst)
    · rw [if_neg hst]
      exact Or.inl h5.2.2
  · rw [if_neg h0]
    omega
theorem JR.rul2 {μ : am_M} {S N q L En Rd rn t up dn least : Nat} {od dF : Nat → Nat} (h : JR μ S N q L En Rd rn t up dn least od dF) {s : Nat} (hs : s < En) : ruF dF Rd t s ≤ L := by
  have hE := h.a.e
  have := (h.dr s (by omega)).2.2
  rcases h.rul s with z | z
  · exact z
  · omega
abbrev rmF (dF : Nat → Nat) (Rd : Nat) : Nat → Nat := fun s => if dF s = 0 then Rd else dF s
theorem JR.mn {μ : am_M} {S N q L En Rd rn t up dn least : Nat} {od dF : Nat → Nat} (h : JR μ S N q L En Rd rn t up dn least od dF) {a b : Nat} (ha : a < En) (hb : b < En) : min Rd (min (ruF dF Rd t a) (ruF dF Rd t b)) = min (rmF dF Rd a) (rmF dF Rd b) := by
  have hE := h.a.e
  have h1 := (h.dr a (by omega)).2.2
  have h2 := (h.dr b (by omega)).2.2
  unfold ruF rmF
  by_cases ca : dF a = 0 <;> by_cases cb : dF b = 0 <;> by_cases sa : a < t <;> by_cases sb : b < t <;> simp [ca, cb, sa, sb] <;> omega
theorem jo_odds {E : am_E} {μ : am_M} (hJ : J μ) (a b side : Int32) : am_Ct E yX6_odds cX6_odds 4 (some .long) rmX6_odds [.ref 1, .int a, .int b, .int side] μ (fun v μ' => ∃ w, v = some (.long w) ∧ Bs μ' ∧ am_Ct E yX7_odds cX7_odds 4 (some .long) rmX7_odds [.ref 46, .int a, .int b, .int side] μ' (fun v' μ'' => v' = some (.long w) ∧ J μ'')) := by
  obtain ⟨S, N, hT, ⟨h1, h2⟩ | ⟨q, L, En, Rd, rn, t, up, dn, least, od, dF, hR⟩⟩ := hJ
  · refine (ct_X6_oddsN hT.b h1 a b side).post ?_
    rintro _ _ ⟨rfl, rfl⟩
    refine ⟨_, rfl, hT.b, (ct_X7_oddsN hT.b h2 a b side).post ?_⟩
    rintro _ _ ⟨rfl, rfl⟩
    exact ⟨rfl, J.no hT h1 h2 (Qq.th _ _ _)⟩
  · have hE := hR.a.e
    have hL := hR.rc.l
    have hq := hR.rc.qq
    have h5 := hR.en
    have hrm : ∀ s, s < En → (if mm_I μ (q + 15) s = 0 then nI Rd else mm_I μ (q + 15) s) = nI (rmF dF Rd s) ∧ rmF dF Rd s ≤ L := fun s hs => by
      have h6 := hR.dr s (by omega)
      by_cases c : dF s = 0
      · rw [if_pos ((hR.z0 hR.r24 (by omega)).mpr c)]
        simp only [rmF, if_pos c]
        exact ⟨trivial, h5.2.2⟩
      · rw [if_neg (fun z => c ((hR.z0 hR.r24 (by omega)).mp z)), h6.1]
        simp only [rmF, if_neg c]
        exact ⟨trivial, by omega⟩
    refine (ct_X6_odds hT.b hR.rc hR.a hR.cu a b side (rn := ruF dF Rd t) (fun s hs => ⟨hR.ran s hs, by have := hR.rul2 hs; omega⟩)).post ?_
    rintro _ μ' (⟨c, rfl, rfl⟩ | ⟨c, a', b', rfl, rfl, ha, hb, hS, rfl⟩)
    · refine ⟨_, rfl, hT.b, (ct_X7_odds hT.b (hR.mo hT) hT.m hR.k6 hR.k0 hR.kd a b side hrm).post ?_⟩
      rintro _ _ (⟨d, rfl, rfl⟩ | ⟨d, _⟩)
      · exact ⟨rfl, J.ra hT hR (Qq.th _ _ _)⟩
      · exact absurd d c
    · have hQ : Qq q μ μ' := Qq.sm hS (fun a ha => by unfold Sod at ha; unfold Sq; omega) (by unfold Sod; omega)
      have e46 : ∀ k, mm_I μ' 46 k = mm_I μ 46 k := fun k => hS.2.1 46 k (by unfold Sod; omega)
      refine ⟨_, rfl, hT.b.fr hQ.1, (ct_X7_odds (hT.b.fr hQ.1) ((hR.mo hT).keep (e46 _) (e46 _) (e46 _) (fun k => hS.2.1 _ _ (by unfold Sod; omega)) (fun k => hS.2.1 _ _ (by unfold Sod; omega))) (hT.m.keep (e46 _) (e46 _) (fun k => hS.2.1 _ _ (by unfold Sod; omega))) ((e46 _).trans hR.k6) hR.k0 hR.kd (nI a') (nI b') side hrm).post ?_⟩
      rintro _ μ'' (⟨d, _⟩ | ⟨d, a2, b2, he1, he2, ha2, hb2, hS2, h46, rfl⟩)
      · exact absurd c d
      · have z1 := (nI_eq (by omega) (by omega)).mp he1
        have z2 := (nI_eq (by omega) (by omega)).mp he2
        subst z1 z2
        refine ⟨?_, J.ra hT hR ((hQ.tr (Qq.th _ _ _)).tr (Qq.smo hS2 h46))⟩
        rw [hR.mn ha hb]
        have hm1 : min (rmF dF Rd a') (rmF dF Rd b') ≤ ruF dF Rd t a' := by rw [← hR.mn ha hb]; omega
        have hm2 : min (rmF dF Rd a') (rmF dF Rd b') ≤ ruF dF Rd t b' := by rw [← hR.mn ha hb]; omega
        obtain ⟨e1, e2⟩ := od_cg (kd := mm_I μ q 0) (ca := tkn μ q a') (ca' := fun r => cst μ a' (od r)) (cb := tkn μ q b') (cb' := fun r => cst μ b' (od r)) (m := min (rmF dF Rd a') (rmF dF Rd b')) (fun r hr => (hR.tk a' r ha (by omega)).1) (fun r hr => (hR.tk b' r hb (by omega)).1)
        rw [e1, e2]
theorem bitsN_cg {b b' : Nat → Bool} : ∀ {n : Nat}, (∀ s, s < n → b s = b' s) → bitsN b n = bitsN b' n
  | 0, _ => rfl
  | n + 1, h => by
    show bitsN b n + _ = bitsN b' n + _
    rw [bitsN_cg (fun s hs => h s (by omega)), h n (by omega)]
theorem JT.bw {μ : am_M} {S N : Nat} (h : JT μ S N) : bitsN (whB μ N) S = bitsN (whM (cst μ) N) S := bitsN_cg (fun s hs => h.wh s (by have := h.t.s; omega))
theorem JT.b0 {μ : am_M} {S N : Nat} (h : JT μ S N) : bitsN (whM (cst μ) N) S = 0 ↔ cnt (whB μ N) S = 0 := by
  rw [h.cw]
  exact al_0
theorem jo_stump {E : am_E} {μ : am_M} (hJ : J μ) (x : Int32) : am_Ct E yX6_stump cX6_stump 2 (some .int) rmX6_stump [.ref 1, .int x] μ (fun v μ' => ∃ a, v = some (.int a) ∧ Bs μ' ∧ am_Ct E yX7_stump cX7_stump 2 (some .int) rmX7_stump [.ref 46, .int x] μ' (fun v' μ'' => v' = some (.int a) ∧ J μ'')) := by
  have hJ0 := hJ
  obtain ⟨S, N, hT, _⟩ := hJ0
  have hN := hT.t.n
  have hS := hT.t.s
  have hb0 := hT.b0
  refine (ct_X6_stump hT.b hT.t hT.fe x).post ?_
  rintro _ μ' (⟨c, rfl, rfl⟩ | ⟨c, c1, rfl, rfl⟩ | ⟨c1, j, hj, rfl, hP, rfl⟩)
  · refine ⟨_, rfl, hT.b, (ct_X7_stump hT.b hT.m hT.h hT.f 0 0 x).post ?_⟩
    rintro _ _ (⟨d, rfl, rfl⟩ | ⟨d, _⟩ | ⟨d, _⟩)
    · exact ⟨rfl, hJ.any (fun q _ => Qq.th _ _ _)⟩
    · exact absurd d c
    · exact absurd d c
  · refine ⟨_, rfl, hT.b, (ct_X7_stump hT.b hT.m hT.h hT.f 0 0 x).post ?_⟩
    rintro _ _ (⟨d, _⟩ | ⟨d, d1, rfl, rfl⟩ | ⟨d, d1, _⟩)
    · exact absurd c d
    · exact ⟨rfl, hJ.any (fun q _ => Qq.th _ _ _)⟩
    · exact absurd (hb0.mpr c1) d1
  · obtain ⟨hSm, hfl⟩ := hP
    have hQ : ∀ q, Qq q μ μ' := fun q => Qq.sm hSm (fun a ha => by unfold S3s at ha; unfold Sq; omega) (by unfold S3s; omega)
    have hb := hT.b.fr hSm.1
    have e : ∀ a k, (a < 43 ∨ 46 ≤ a) → mm_I μ' a k = mm_I μ a k := fun a k ha => hSm.2.1 a k (by unfold S3s; omega)
    refine ⟨_, rfl, hb, (ct_X7_stump hb (hT.m.keep (e _ _ (by omega)) (e _ _ (by omega)) (fun k => e _ _ (by omega))) (fun i hi => (e _ _ (by omega)).trans (hT.h i hi)) (fun f i hf hi => (e _ _ (by omega)).trans (hT.f f i hf hi)) (mm_I μ 43 2) (mm_I μ 43 3) (nI j)).post ?_⟩
    have hc : 0 ≤ nI j ∧ nI j ≤ 4 := ⟨nI_pos' (by omega), (nI_leI (b := 4) (by omega) (by decide)).mpr hj⟩
    rintro _ μ'' (⟨d, _⟩ | ⟨d, d1, _⟩ | ⟨d, d1, d2, d3, rfl⟩)
    · exact absurd hc d
    · exact absurd (hb0.mp d1) c1
    · refine ⟨?_, hJ.any (fun q _ => ((hQ q).tr (Qq.th _ _ _)).tr (Qq.kst d2))⟩
      rw [← stF_cg (fun s hs => hT.wh s (by omega))] at d3
      have h1 : fldM μ'' = fld μ' := d3.trans hfl.symm
      simp only [Prod.mk.injEq] at h1
      obtain ⟨g6, g2, g3, g4, g5⟩ := h1
      rcases (by omega : j = 0 ∨ j = 1 ∨ j = 2 ∨ j = 3 ∨ j = 4) with z | z | z | z | z <;> subst z
      · rw [if_pos (by decide), g2]
      · rw [if_neg (by decide), if_pos (by decide), g3]
      · rw [if_neg (by decide), if_neg (by decide), if_pos (by decide), g4]
      · rw [if_neg (by decide), if_neg (by decide), if_neg (by decide), if_pos (by decide), g5]
      · rw [if_neg (by decide), if_neg (by decide), if_neg (by decide), if_neg (by decide), g6]
theorem JT.sum {μ : am_M} {S N : Nat} (h : JT μ S N) : ∀ k wf p, (∀ x, x < (cnt (whB μ N) S) → wf x < S ∧ (whB μ N) (wf x) = true ∧ cnt (whB μ N) (wf x) = x) → inc (cnt (whB μ N) S) k p → (sumP (lrn μ) (fun s i => mm_I μ (4 + s) i) wf k N) p < 2147483647 := fun k wf p hwf hp => by
  have hS := h.t.s
  have hN := h.t.n
  obtain ⟨m, hm, he⟩ := smQ_nat (P := lrn μ) (c := fun i => mnF (fun j => mm_I μ (4 + wf (p j)) i) k) (n := N) (fun i hi _ => by
    rcases mnF_or (c := fun j => mm_I μ (4 + wf (p j)) i) (k := k) with z | ⟨j, hj, z⟩
    · exact ⟨2000000, Nat.le_refl _, z⟩
    · have h1 := hwf _ (hp.2 j hj)
      obtain ⟨a, ha, he⟩ := h.told h1.1 (by rw [← h.wh _ (by omega)]; exact h1.2.1) hi
      exact ⟨a, ha, z.trans he⟩)
  show smQ _ _ N < _
  rw [he]
  exact (nI_ltI (b := 2147483647) (by omega) (by decide)).mpr (by omega)
theorem wf_ex (b : Nat → Bool) (n : Nat) : ∃ wf : Nat → Nat, ∀ x, x < cnt b n → wf x < n ∧ b (wf x) = true ∧ cnt b (wf x) = x := by
  have h : ∀ j, ∃ e, j < cnt b n → e < n ∧ b e = true ∧ cnt b e = j := fun j => by
    by_cases hj : j < cnt b n
    · obtain ⟨i, h1, h2, h3, h4⟩ := fil_in b (fun _ => 0) n j hj
      exact ⟨i, fun _ => ⟨h1, h2, h4⟩⟩
    · exact ⟨0, fun h => absurd h hj⟩
  exact ⟨fun j => Classical.choose (h j), fun j hj => Classical.choose_spec (h j) hj⟩
theorem JT.hex {μ : am_M} {S N : Nat} (h : JT μ S N) : ∀ k, 1 ≤ k → k ≤ (cnt (bitsN (whM (cst μ) N) S).testBit 12) → ∃ Y, Y < 4096 ∧ cnX (bitsN (whM (cst μ) N) S) k Y := fun k _ hk => by
  rw [al_cnt h.t.s] at hk
  obtain ⟨wf, hwf⟩ := wf_ex (whM (cst μ) N) S
  exact pf_ex (b := fun j => j) h.t.s hwf ⟨fun j _ => by show j < j + 1; omega, fun j hj => by show j < _; omega⟩
theorem rg_y {y : Int32} {k : Nat} (h1 : 1 ≤ k) (h2 : k ≤ 12) : (y = -1 ∨ (0 ≤ y ∧ y < nI k)) ↔ (-1 ≤ y ∧ y ≤ nI (k - 1)) := by
  simp only [Int32.le_iff_toInt_le, Int32.lt_iff_toInt_lt, ← Int32.toInt_inj]
  have a1 : (-1 : Int32).toInt = -1 := rfl
  have a2 : (0 : Int32).toInt = 0 := rfl
  rw [a1, a2, nI_toInt (by omega), nI_toInt (by omega)]
  omega
theorem JT.cs2 {μ : am_M} {S N : Nat} (h : JT μ S N) : ∀ s, s < S → whB μ N s = true → ∀ i, i < N → mm_I μ (4 + s) i ≤ 2000000 := fun s hs hw i hi => by
  have hS := h.t.s
  obtain ⟨a, ha, he⟩ := h.told hs (by rw [← h.wh _ (by omega)]; exact hw) hi
  rw [show mm_I μ (4 + s) i = nI a from he]
  exact le_2m ha
theorem jo_portfolio {E : am_E} {μ : am_M} (hJ : J μ) (x y : Int32) : am_Ct E yX6_portfolio cX6_portfolio 3 (some .int) rmX6_portfolio [.ref 1, .int x, .int y] μ (fun v μ' => ∃ a, v = some (.int a) ∧ Bs μ' ∧ am_Ct E yX7_portfolio cX7_portfolio 5 (some .int) rmX7_portfolio [.ref 46, .int x, .int y] μ' (fun v' μ'' => v' = some (.int a) ∧ J μ'')) := by
  have hJ0 := hJ
  obtain ⟨S, N, hT, _⟩ := hJ0
  have hN := hT.t.n
  have hS := hT.t.s
  have hcw : cnt (bitsN (whM (cst μ) N) S).testBit 12 = cnt (whB μ N) S := (al_cnt hS).trans hT.cw.symm
  have hcl := cnt_le (whB μ N) S
  have hex := hT.hex
  have main : ∀ {μ' : am_M} {k : Nat} {a : Int32}, x = nI k → 1 ≤ k → k ≤ cnt (whB μ N) S → (y = -1 ∨ (0 ≤ y ∧ y < nI k)) → PfP μ μ' S N k → a = (if y = -1 then mm_I μ' 25 6 else mm_I μ' 28 y.toNatClampNeg) → ∃ b, some (Value.int a) = some (Value.int b) ∧ Bs μ' ∧ am_Ct E yX7_portfolio cX7_portfolio 5 (some .int) rmX7_portfolio [.ref 46, .int x, .int y] μ' (fun v' μ'' => v' = some (.int b) ∧ J μ'') := fun {μ' k a} hx hk1 hk2 hy hP ha => by
    obtain ⟨hSm, wf, b, hwf, h25, hF, h28⟩ := hP
    have e : ∀ a k, (a < 25 ∨ 43 ≤ a) → mm_I μ' a k = mm_I μ a k := fun a k ha => hSm.2.1 a k (by unfold Spf; omega)
    have hQ : ∀ q, Qq q μ μ' := fun q => Qq.sm hSm (fun a ha => by unfold Spf at ha; unfold Sq; omega) (by unfold Spf; omega)
    have hb := hT.b.fr hSm.1
    refine ⟨_, rfl, hb, (ct_X7_portfolio hb (hT.m.keep (e _ _ (by omega)) (e _ _ (by omega)) (fun k => e _ _ (by omega))) (lr := lrn μ) (fun i hi => (e _ _ (by omega)).trans (hT.h i hi)) hex x y).post ?_⟩
    rintro _ μ'' (⟨d, _⟩ | ⟨d, d1, _⟩ | ⟨k2, d, d1, d2, ⟨d3, _⟩ | ⟨d3, B, hB, rfl, hBc, hBm, rfl⟩⟩)
    · rw [hx] at d
      exact absurd d (Int32.not_lt.mpr ((nI_leI (a := 1) (by decide) (by omega)).mpr hk1))
    · rw [hx, hcw] at d1
      exact absurd d1 (Int32.not_lt.mpr (nI_le hk2 (by omega)))
    · rw [hcw] at d2
      have := (nI_eq (by omega) (by omega)).mp (hx.symm.trans d)
      subst this
      exact absurd ((rg_y hk1 (by omega)).mp hy) d3
    · rw [hcw] at d2
      have := (nI_eq (by omega) (by omega)).mp (hx.symm.trans d)
      subst this
      refine ⟨?_, hJ.any (fun q _ => (((hQ q).tr (Qq.th _ _ _)).s46 (by decide) _).s46 (by decide) _)⟩
      rw [← hT.bw] at hBc hBm
      obtain ⟨r1, r2⟩ := pf_same hS hk1 hT.cs2 hwf hF hB hBc hBm
      rw [ha]
      rcases hy with hy | hy
      · rw [if_pos hy, hy, if_pos (by decide)]
        exact congrArg (fun z => some (Value.int z)) r1
      · obtain ⟨j, hj, rfl⟩ := nI_rg2 hy (by omega)
        rw [if_neg (nI_nm1 (by omega)), if_neg (nI_pos (by omega)), nI_clamp (by omega), r2 j hj, h28 j hj]
        rfl
  refine (ct_X6_portfolio hT.b hT.t hT.v hT.sum x y).post ?_
  rintro _ μ' (⟨c, rfl, rfl⟩ | ⟨c, c1, rfl, rfl⟩ | ⟨k, hx, hk1, hk2, ⟨c, rfl, rfl⟩ | ⟨c, hP, rfl⟩ | ⟨i, hi, hy, hP, rfl⟩⟩)
  · refine ⟨_, rfl, hT.b, (ct_X7_portfolio hT.b hT.m hT.h hex x y).post ?_⟩
    rintro _ _ (⟨d, rfl, rfl⟩ | ⟨d, _⟩ | ⟨k, rfl, hk1, hk2, _⟩)
    · exact ⟨rfl, hJ.any (fun q _ => Qq.th _ _ _)⟩
    · exact absurd c d
    · rw [hcw] at hk2
      exact absurd c (Int32.not_lt.mpr ((nI_leI (a := 1) (by decide) (by omega)).mpr hk1))
  · refine ⟨_, rfl, hT.b, (ct_X7_portfolio hT.b hT.m hT.h hex x y).post ?_⟩
    rintro _ _ (⟨d, _⟩ | ⟨d, d1, rfl, rfl⟩ | ⟨k, rfl, hk1, hk2, _⟩)
    · exact absurd d c
    · exact ⟨rfl, hJ.any (fun q _ => Qq.th _ _ _)⟩
    · rw [hcw] at hk2
      exact absurd c1 (Int32.not_lt.mpr (nI_le hk2 (by omega)))
  · refine ⟨_, rfl, hT.b, (ct_X7_portfolio hT.b hT.m hT.h hex x y).post ?_⟩
    rintro _ μ'' (⟨d, _⟩ | ⟨d, d1, _⟩ | ⟨k2, d, d1, d2, ⟨d3, rfl, rfl⟩ | ⟨d3, _⟩⟩)
    · rw [hx] at d
      exact absurd d (Int32.not_lt.mpr ((nI_leI (a := 1) (by decide) (by omega)).mpr hk1))
    · rw [hx, hcw] at d1
      exact absurd d1 (Int32.not_lt.mpr (nI_le hk2 (by omega)))
    · exact ⟨rfl, hJ.any (fun q _ => Qq.th _ _ _)⟩
    · rw [hcw] at d2
      have := (nI_eq (by omega) (by omega)).mp (hx.symm.trans d)
      subst this
      exact absurd ((rg_y hk1 (by omega)).mpr d3) c
  · exact main hx hk1 hk2 (Or.inl c) hP (by rw [if_pos c])
  · subst hy
    exact main hx hk1 hk2 (Or.inr ⟨nI_pos' (by omega), nI_lt hi (by omega)⟩) hP (by rw [if_neg (nI_nm1 (by omega)), nI_clamp (by omega)])
