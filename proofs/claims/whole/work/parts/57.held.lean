/-! class and model answer alike: heldOut -/
theorem kth_spec {b : Nat → Bool} {n k s : Nat} (h : kth b n k = some s) : s < n ∧ b s = true ∧ cnt b s = k := by
  unfold kth at h
  have h1 := List.find?_some h
  have h2 := List.mem_of_find?_eq_some h
  simp only [Bool.and_eq_true, decide_eq_true_eq] at h1
  exact ⟨List.mem_range.mp h2, h1.1, h1.2⟩
theorem lf_one {b : Nat → Bool} {c : Nat → Int32} {S s : Nat} (hs : s < S) (hb : b s = true) (hc : c s ≤ 2000000) (hu : ∀ o, o < S → b o = true → c s ≤ c o) : lfM b c S = c s := by
  have h1 := lfM_le (c := c) hs hb
  rcases lfM_or (b := b) (c := c) (S := S) with z | ⟨o, ho, hbo, z⟩
  · rw [z] at h1
    exact absurd (Int32.le_trans h1 hc) (by decide)
  · rw [z] at h1 ⊢
    exact Int32.le_antisymm h1 (hu o ho hbo)
theorem hl_cls (μ : am_M) (i : Nat) : decide (mm_I μ 20 i = 0) = hlM (lrn μ) i := by
  simp only [hlM, lrn]
  by_cases h : mm_I μ 20 i = 0 <;> simp [h]
theorem hl_iff {μ : am_M} {i : Nat} : mm_I μ 20 i = 0 ↔ ¬ lrn μ i = true := by
  simp only [lrn]
  by_cases h : mm_I μ 20 i = 0 <;> simp [h]
theorem JT.rg2 {μ : am_M} {S N : Nat} (h : JT μ S N) : ∀ (P Q : Nat → Bool) b g, b < S → whM (cst μ) N b = true → g < S → whM (cst μ) N g = true → smQ P (cst μ b) N + smQ Q (cst μ g) N < 2147483647 := fun P Q b g hb hwb hg hwg => by
  have hN := h.t.n
  obtain ⟨m1, h1, e1⟩ := smQ_nat (P := P) (c := cst μ b) (n := N) (fun i hi _ => h.told hb hwb hi)
  obtain ⟨m2, h2, e2⟩ := smQ_nat (P := Q) (c := cst μ g) (n := N) (fun i hi _ => h.told hg hwg hi)
  rw [e1, e2, nI_add]
  exact (nI_ltI (b := 2147483647) (by omega) (by decide)).mpr (by omega)
theorem jo_heldOut {E : am_E} {μ : am_M} (hJ : J μ) (x : Int32) : am_Ct E yX6_heldOut cX6_heldOut 5 (some .int) rmX6_heldOut [.ref 1, .int x] μ (fun v μ' => ∃ a, v = some (.int a) ∧ Bs μ' ∧ am_Ct E yX7_heldOut cX7_heldOut 6 (some .int) rmX7_heldOut [.ref 46, .int x] μ' (fun v' μ'' => v' = some (.int a) ∧ J μ'')) := by
  have hJ0 := hJ
  obtain ⟨S, N, hT, _⟩ := hJ0
  have hN := hT.t.n
  have hS := hT.t.s
  have hb0 := hT.b0
  by_cases hno : ¬ (0 ≤ x ∧ x ≤ 3) ∨ cnt (whB μ N) S = 0
  · refine (ct_X6_heldOutN hT.b hT.t x hno).post ?_
    rintro _ _ ⟨rfl, rfl⟩
    refine ⟨_, rfl, hT.b, (ct_X7_heldOutN hT.b hT.m hT.h hT.f x (hno.imp id hb0.mpr)).post ?_⟩
    rintro _ _ ⟨rfl, rfl⟩
    exact ⟨rfl, hJ.any (fun q _ => Qq.th _ _ _)⟩
  · have hx : 0 ≤ x ∧ x ≤ 3 := Classical.byContradiction (fun h => hno (Or.inl h))
    have hcn : ¬ cnt (whB μ N) S = 0 := fun h => hno (Or.inr h)
    have hne : ¬ bitsN (whM (cst μ) N) S = 0 := fun h => hcn (hb0.mp h)
    have hcl := cnt_le (whB μ N) S
    obtain ⟨j, hj, rfl⟩ := rg_le (n := 3) hx (by decide)
    rcases (by omega : j = 0 ∨ j = 1 ∨ j = 2 ∨ j = 3) with z | z | z | z <;> subst z
    · have hpl : ∀ i b, pkF μ S N i = some b → b < 2 ^ 31 := fun i b hb => by have := pkF_lt hb; omega
      refine (ct_X6_heldOutG hT.b hT.t (nI 0) hx hcn (fun ν => μ = ν) (fun _ i => enO (-1) (pkF μ S N i)) (ct_X6_findChoice0 hT.b (nI 0) (by decide) (by decide)) (fun ν h => by subst h; exact ⟨Fr.rf _, hT.t, fun _ => rfl⟩) (fun ν h i hi _ => by subst h; exact ct_X6_chosenFor0 hT.b hT.t hT.v i hi)).post ?_
      rintro v μ' ⟨rfl, hv⟩
      have hv2 : ∃ a, v = some (.int a) := by rcases hv with ⟨_, _, _, _, h⟩ | ⟨_, h⟩ <;> exact ⟨_, h⟩
      obtain ⟨a, rfl⟩ := hv2
      refine ⟨_, rfl, hT.b, (ct_X7_heldOut0 hT.b hT.m hT.h hT.f hne).post ?_⟩
      rintro _ _ ⟨rfl, hw⟩
      refine ⟨?_, hJ.any (fun q _ => Qq.th _ _ _)⟩
      rcases hv with ⟨i, hi, h20, hch, hva⟩ | ⟨hall, hva⟩
      · rcases hw with ⟨_, _, _, _, rfl⟩ | ⟨hall2, _⟩
        · exact hva.symm
        · exact absurd ((hT.pk hi).symm.trans ((enO_n1 (hpl i)).mp hch)) (hall2 i hi (hl_iff.mp h20))
      · rcases hw with ⟨i, hi, hl, hn, _⟩ | ⟨hall2, rfl⟩
        · exact absurd ((enO_n1 (hpl i)).mpr ((hT.pk hi).trans hn)) (hall i hi (hl_iff.mpr hl))
        · rw [hva]
          refine congrArg (fun z => some (Value.int z)) (smQ_congr (fun i hi => ⟨(hl_cls μ i).symm, fun hl => ?_⟩))
          have hl2 : ¬ lrn μ i = true := of_decide_eq_true hl
          rcases hp : pkM (lrn μ) (ftF μ) (cst μ) S N i with _ | b
          · exact absurd hp (hall2 i hi hl2)
          · rw [hT.pk hi, hp]
            have hbS : b < S := pkF_lt ((hT.pk hi).trans hp)
            exact (co_in hbS hi hS hN).symm
    · refine (ct_X6_heldOutG hT.b hT.t (nI 1) hx hcn (fun ν => PfP μ ν S N 1) (fun ν _ => mm_I ν 28 0) (ct_X6_findChoice1 hT.b hT.t hT.sum (by omega)) (fun ν h => ⟨h.1.1, hT.t.sm h.1 (by unfold Spf; omega), fun i => h.1.2.1 20 i (by unfold Spf; omega)⟩) (fun ν h i hi _ => ct_X6_chosenFor1 (hT.b.fr h.1.1) i (by obtain ⟨_, wf, b, _, h25, _⟩ := h; exact h25))).post ?_
      rintro v μ' ⟨hP, hv⟩
      have hv2 : ∃ a, v = some (.int a) := by rcases hv with ⟨_, _, _, _, h⟩ | ⟨_, h⟩ <;> exact ⟨_, h⟩
      obtain ⟨a, rfl⟩ := hv2
      obtain ⟨hSm, wf, b, hwf, h25, hF, h28⟩ := hP
      have e : ∀ a k, (a < 25 ∨ 43 ≤ a) → mm_I μ' a k = mm_I μ a k := fun a k ha => hSm.2.1 a k (by unfold Spf; omega)
      have hQ : ∀ q, Qq q μ μ' := fun q => Qq.sm hSm (fun a ha => by unfold Spf at ha; unfold Sq; omega) (by unfold Spf; omega)
      have hb := hT.b.fr hSm.1
      refine ⟨_, rfl, hb, (ct_X7_heldOut1 hb (hT.m.keep (e _ _ (by omega)) (e _ _ (by omega)) (fun k => e _ _ (by omega))) (lr := lrn μ) (fun i hi => (e _ _ (by omega)).trans (hT.h i hi)) (fe := ftF μ) (fun f i hf hi => (e _ _ (by omega)).trans (hT.f f i hf hi)) hne (hT.hex 1 (Nat.le_refl _) (by rw [al_cnt hS, ← hT.cw]; omega))).post ?_⟩
      rintro _ μ'' ⟨B, hB, rfl, hBc, hBm, rfl⟩
      refine ⟨?_, hJ.any (fun q _ => (((hQ q).tr (Qq.th _ _ _)).s46 (by decide) _).s46 (by decide) _)⟩
      rw [← hT.bw] at hBc hBm
      obtain ⟨r1, r2⟩ := pf_same hS (Nat.le_refl 1) hT.cs2 hwf hF hB hBc hBm
      have r3 := kth_spec (r2 0 (by decide))
      have hw0 := hwf _ (hF.1.2 0 (by decide))
      have hs0 := h28 0 (by decide)
      rcases hv with ⟨i, hi, h20, hch, hva⟩ | ⟨hall, hva⟩
      · rw [hs0] at hch
        exact absurd hch (nI_nm1 (by omega))
      · rw [hva]
        refine congrArg (fun z => some (Value.int z)) (smQ_congr (fun i hi => ⟨(hl_cls μ i).symm, fun hl => ?_⟩))
        show _ = co μ' S N (mm_I μ' 28 0) (nI i)
        rw [hs0, co_in hw0.1 hi hS hN, e _ _ (by omega)]
        refine lf_one (c := fun s => cst μ s i) hw0.1 r3.2.1 (hT.cs2 _ hw0.1 hw0.2.1 i hi) (fun o ho hbo => ?_)
        have h1 := cnt_lt (b := Nat.testBit B) hbo (show o < 12 by omega)
        have h2 : cnt (Nat.testBit B) 12 = 1 := hBc.2
        have h4 : cnt (Nat.testBit B) (wf (b 0)) = 0 := r3.2.2
        have h3 : o = wf (b 0) := cnt_inj (b := Nat.testBit B) hbo r3.2.1 (by omega)
        rw [h3]
        exact Int32.le_refl _
    · obtain ⟨w, hw1, hw2⟩ := cnt_pos (b := whB μ N) (n := S) (by omega)
      have hbl : ∀ i, ∃ b, bsF μ S N i = some b ∧ b < S := fun i => by
        obtain ⟨b, hb⟩ := am1_ex (p := fun s => decide (mm_I μ 16 s = nI N)) (c := fun s => mm_I μ (4 + s) i) hw1 hw2
        exact ⟨b, hb, (bsF_lt hb).1⟩
      refine (ct_X6_heldOutG hT.b hT.t (nI 2) hx hcn (fun ν => μ = ν) (fun _ i => enO (-1) (bsF μ S N i)) (ct_X6_findChoice0 hT.b (nI 2) (by decide) (by decide)) (fun ν h => by subst h; exact ⟨Fr.rf _, hT.t, fun _ => rfl⟩) (fun ν h i hi _ => by subst h; exact ct_X6_chosenFor2 hT.b hT.t hT.v i hi)).post ?_
      rintro v μ' ⟨rfl, hv⟩
      have hv2 : ∃ a, v = some (.int a) := by rcases hv with ⟨_, _, _, _, h⟩ | ⟨_, h⟩ <;> exact ⟨_, h⟩
      obtain ⟨a, rfl⟩ := hv2
      refine ⟨_, rfl, hT.b, (ct_X7_heldOut2 hT.b hT.m hT.h hT.f hne).post ?_⟩
      rintro _ _ ⟨rfl, rfl⟩
      refine ⟨?_, hJ.any (fun q _ => Qq.th _ _ _)⟩
      rcases hv with ⟨i, hi, h20, hch, hva⟩ | ⟨hall, hva⟩
      · obtain ⟨b, hb, hbS⟩ := hbl i
        rw [hb] at hch
        exact absurd hch (nI_nm1 (by omega))
      · rw [hva]
        refine congrArg (fun z => some (Value.int z)) (smQ_congr (fun i hi => ⟨(hl_cls μ i).symm, fun hl => ?_⟩))
        obtain ⟨b, hb, hbS⟩ := hbl i
        have hsp := am1_spec (fun s => decide (mm_I μ 16 s = nI N)) (fun s => mm_I μ (4 + s) i) S
        rw [show am1 (fun s => decide (mm_I μ 16 s = nI N)) (fun s => mm_I μ (4 + s) i) S = some b from hb] at hsp
        rw [hb]
        show _ = co μ S N (nI b) (nI i)
        rw [co_in hbS hi hS hN, ← hT.bw]
        refine lf_one (c := fun s => cst μ s i) hbS (al_bit.mpr ⟨hbS, hsp.2.1⟩) (hT.cs2 _ hbS hsp.2.1 i hi) (fun o ho hbo => ?_)
        rcases hsp.2.2 o ho (al_bit.mp hbo).2 with z | z
        · exact Int32.le_of_lt z
        · rw [show cst μ b i = cst μ o i from z.1]
          exact Int32.le_refl _
    · obtain ⟨sv, cv, ff, bb, oo, hst, hff, hbb, hoo⟩ := stF_G (wh := whM (cst μ) N) (lr := lrn μ) (S := S) (N := N) (fe := ftF μ) (cs := cst μ) (F0 := mm_I μ 43 2) (C0 := mm_I μ 43 3) (by
        obtain ⟨w, hw1, hw2⟩ := cnt_pos (b := whB μ N) (n := S) (by omega)
        exact ⟨w, hw1, (hT.wh w (by omega)) ▸ hw2⟩) hT.rg2
      have hfd : ∀ ν, StP μ ν S N → mm_I ν 43 2 = nI ff ∧ mm_I ν 43 3 = cv ∧ mm_I ν 43 4 = nI bb ∧ mm_I ν 43 5 = nI oo := fun ν h => by
        have h1 := h.2
        rw [stF_cg (fun s hs => hT.wh s (by omega)), hst] at h1
        simp only [Prod.mk.injEq] at h1
        exact h1.2
      refine (ct_X6_heldOutG hT.b hT.t (nI 3) hx hcn (fun ν => StP μ ν S N) (fun ν i => if mm_I ν (18 + ff) i < mm_I ν 43 3 then mm_I ν 43 4 else mm_I ν 43 5) (ct_X6_findChoice3 hT.b hT.t hT.fe hcn) (fun ν h => ⟨h.1.1, hT.t.sm h.1 (by unfold S3s; omega), fun i => h.1.2.1 20 i (by unfold S3s; omega)⟩) (fun ν h i hi _ => ct_X6_chosenFor3 (hT.b.fr h.1.1) (hT.t.sm h.1 (by unfold S3s; omega)) i hi (hfd ν h).1 hff)).post ?_
      rintro v μ' ⟨hP, hv⟩
      have hv2 : ∃ a, v = some (.int a) := by rcases hv with ⟨_, _, _, _, h⟩ | ⟨_, h⟩ <;> exact ⟨_, h⟩
      obtain ⟨a, rfl⟩ := hv2
      obtain ⟨f2, f3, f4, f5⟩ := hfd μ' hP
      obtain ⟨hSm, -⟩ := hP
      have e : ∀ a k, (a < 43 ∨ 46 ≤ a) → mm_I μ' a k = mm_I μ a k := fun a k ha => hSm.2.1 a k (by unfold S3s; omega)
      have hQ : ∀ q, Qq q μ μ' := fun q => Qq.sm hSm (fun a ha => by unfold S3s at ha; unfold Sq; omega) (by unfold S3s; omega)
      have hb := hT.b.fr hSm.1
      refine ⟨_, rfl, hb, (ct_X7_heldOut3 hb (hT.m.keep (e _ _ (by omega)) (e _ _ (by omega)) (fun k => e _ _ (by omega))) (lr := lrn μ) (fun i hi => (e _ _ (by omega)).trans (hT.h i hi)) (fe := ftF μ) (fun f i hf hi => (e _ _ (by omega)).trans (hT.f f i hf hi)) hne (mm_I μ 43 2) (mm_I μ 43 3) hst hff (by omega) (by omega)).post ?_⟩
      rintro _ μ'' ⟨hK, hfl, rfl⟩
      refine ⟨?_, hJ.any (fun q _ => ((hQ q).tr (Qq.th _ _ _)).tr (Qq.kst hK))⟩
      rcases hv with ⟨i, hi, h20, hch, hva⟩ | ⟨hall, hva⟩
      · rw [f4, f5] at hch
        split at hch
        · exact absurd hch (nI_nm1 (by omega))
        · exact absurd hch (nI_nm1 (by omega))
      · rw [hva]
        refine congrArg (fun z => some (Value.int z)) (smQ_congr (fun i hi => ⟨(hl_cls μ i).symm, fun hl => ?_⟩))
        show _ = co μ' S N (if mm_I μ' (18 + ff) i < mm_I μ' 43 3 then mm_I μ' 43 4 else mm_I μ' 43 5) (nI i)
        rw [f3, f4, f5, e (18 + ff) i (by omega)]
        by_cases hc : mm_I μ (18 + ff) i < cv
        · rw [if_pos hc, if_pos hc, co_in hbb hi hS hN, e _ _ (by omega)]
        · rw [if_neg hc, if_neg hc, co_in hoo hi hS hN, e _ _ (by omega)]
