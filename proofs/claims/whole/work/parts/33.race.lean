/-- what a race's beginning leaves -/
def RcB (μ μ' : am_M) (q S N : Nat) (x0 x1 x2 x3 x4 x5 seed : Int32) : Prop := mm_R μ' 1 4 = some (q + 1) ∧ Bs μ' ∧ Rc μ' q (cnt (lrn μ) N) ∧ mm_Z μ' = q + 20 ∧ (∀ a k, a < q → mm_I μ' a k = mm_I μ a k) ∧ (∀ a k, a < q → mm_L μ' a k = mm_L μ a k) ∧ (mm_I μ' q 0 = x0 ∧ mm_I μ' q 1 = x1 ∧ mm_I μ' q 2 = x2 ∧ mm_I μ' q 3 = x3 ∧ mm_I μ' q 4 = x4 ∧ mm_I μ' q 5 = x5) ∧ mm_I μ' (q + 1) 4 = nI S ∧ mm_I μ' (q + 1) 10 = nI S ∧ mm_I μ' (q + 1) 11 = 0 ∧ mm_I μ' (q + 1) 12 = 0 ∧ mm_I μ' (q + 1) 13 = 0 ∧ mm_I μ' (q + 1) 14 = woF (nI S) x4 0 (nI (cnt (lrn μ) N)) x5 0 ∧ (∀ k, mm_I μ' (q + 15) k = 0) ∧ (∀ k, mm_I μ' (q + 16) k = 0) ∧ (∀ k, mm_I μ' (q + 19) k = shuf ((cnt (lrn μ) N) - 1) seed (fil (lrn μ) (fun _ => 0) N) k)
theorem Bs.sR14 {μ : am_M} (hb : Bs μ) (o : Option Nat) : Bs (mm_sR μ 1 4 o) := by
  have hl : ∀ r ∈ bs_ref, ¬ (r.1 = 1 ∧ r.2.1 = 4) := by decide
  exact ⟨hb.1, fun r hr => by rw [mR_sR, if_neg (hl r hr)]; exact hb.2.1 r hr, fun j hj => by rw [mR_sR, if_neg (by omega)]; exact hb.2.2.1 j hj, fun j hj => by rw [mR_sR, if_neg (by omega)]; exact hb.2.2.2.1 j hj, fun j hj => by rw [mR_sR, if_neg (by omega)]; exact hb.2.2.2.2.1 j hj, hb.2.2.2.2.2⟩
theorem Rc.sR14 {μ : am_M} {q L : Nat} (hr : Rc μ q L) (o : Option Nat) : Rc (mm_sR μ 1 4 o) q L := by
  have hq := hr.qq
  have e : ∀ a k, 57 ≤ a → mm_R (mm_sR μ 1 4 o) a k = mm_R μ a k := fun a k ha => by rw [mR_sR, if_neg (by omega)]
  unfold Rc at *
  simp only [e _ _ (show 57 ≤ q + 1 by omega), e _ _ (show 57 ≤ q + 2 by omega), mS_sR]
  exact hr
theorem ru_facts {μ : am_M} {q : Nat} (hzq : mm_Z μ = q) (x0 x1 x2 x3 x4 x5 : Int32) : Kp μ (mm_sI (mm_sI (mm_sI (mm_sI (mm_sI (mm_sI (mm_nw μ 3 0) q 0 x0) q 1 x1) q 2 x2) q 3 x3) q 4 x4) q 5 x5) ∧ mm_S (mm_sI (mm_sI (mm_sI (mm_sI (mm_sI (mm_sI (mm_nw μ 3 0) q 0 x0) q 1 x1) q 2 x2) q 3 x3) q 4 x4) q 5 x5) q = (3, 0) ∧ mm_Z (mm_sI (mm_sI (mm_sI (mm_sI (mm_sI (mm_sI (mm_nw μ 3 0) q 0 x0) q 1 x1) q 2 x2) q 3 x3) q 4 x4) q 5 x5) = q + 1 ∧ mm_I (mm_sI (mm_sI (mm_sI (mm_sI (mm_sI (mm_sI (mm_nw μ 3 0) q 0 x0) q 1 x1) q 2 x2) q 3 x3) q 4 x4) q 5 x5) q 0 = x0 ∧ mm_I (mm_sI (mm_sI (mm_sI (mm_sI (mm_sI (mm_sI (mm_nw μ 3 0) q 0 x0) q 1 x1) q 2 x2) q 3 x3) q 4 x4) q 5 x5) q 1 = x1 ∧ mm_I (mm_sI (mm_sI (mm_sI (mm_sI (mm_sI (mm_sI (mm_nw μ 3 0) q 0 x0) q 1 x1) q 2 x2) q 3 x3) q 4 x4) q 5 x5) q 2 = x2 ∧ mm_I (mm_sI (mm_sI (mm_sI (mm_sI (mm_sI (mm_sI (mm_nw μ 3 0) q 0 x0) q 1 x1) q 2 x2) q 3 x3) q 4 x4) q 5 x5) q 3 = x3 ∧ mm_I (mm_sI (mm_sI (mm_sI (mm_sI (mm_sI (mm_sI (mm_nw μ 3 0) q 0 x0) q 1 x1) q 2 x2) q 3 x3) q 4 x4) q 5 x5) q 4 = x4 ∧ mm_I (mm_sI (mm_sI (mm_sI (mm_sI (mm_sI (mm_sI (mm_nw μ 3 0) q 0 x0) q 1 x1) q 2 x2) q 3 x3) q 4 x4) q 5 x5) q 5 = x5 := by
  refine ⟨⟨by simp only [mZ_sI, mZ_nw]; omega, fun a ha => ?_, fun a k ha => ?_, fun a k ha => ?_, fun a k ha => ?_⟩, by rw [mS_sI, mS_sI, mS_sI, mS_sI, mS_sI, mS_sI, mS_nw, if_pos hzq.symm], by simp only [mZ_sI, mZ_nw]; omega, ?_, ?_, ?_, ?_, ?_, mI_same _ _ _ _⟩
  · simp only [mS_sI]; rw [mS_nw, if_neg (by omega)]
  · rw [mI_ne (Or.inl (by omega)), mI_ne (Or.inl (by omega)), mI_ne (Or.inl (by omega)), mI_ne (Or.inl (by omega)), mI_ne (Or.inl (by omega)), mI_ne (Or.inl (by omega)), mI_nw, if_neg (by omega)]
  · simp only [mL_sI]; rw [mL_nw, if_neg (by omega)]
  · simp only [mR_sI]; rw [mR_nw, if_neg (by omega)]
  all_goals
    repeat rw [mI_ne (Or.inr (by decide))]
    rw [mI_same]
set_option maxRecDepth 100000 in
set_option maxHeartbeats 1000000 in
theorem ct_X6_race {E : am_E} {μ : am_M} (hb : Bs μ) {S N : Nat} (ht : Tb μ S N) {q : Nat} (hzq : mm_Z μ = q) (x0 x1 x2 x3 x4 x5 seed : Int32) : am_Ct E yX6_race cX6_race 10 (some .int) rmX6_race [.ref 1, .int x0, .int x1, .int x2, .int x3, .int x4, .int x5, .int seed] μ (fun v μ' => (¬ ((0 ≤ x0 ∧ x0 ≤ 1) ∧ (1 ≤ x1 ∧ x1 ≤ nI 24) ∧ (1 ≤ x2 ∧ x2 ≤ nI 1000) ∧ (1 ≤ x3 ∧ x3 ≤ nI 1000) ∧ x2 ≤ x3 ∧ (1 ≤ x4 ∧ x4 ≤ nI 12) ∧ (0 ≤ x5 ∧ x5 ≤ nI 1000)) ∧ v = some (.int (-2)) ∧ Kp μ μ') ∨ (((0 ≤ x0 ∧ x0 ≤ 1) ∧ (1 ≤ x1 ∧ x1 ≤ nI 24) ∧ (1 ≤ x2 ∧ x2 ≤ nI 1000) ∧ (1 ≤ x3 ∧ x3 ≤ nI 1000) ∧ x2 ≤ x3 ∧ (1 ≤ x4 ∧ x4 ≤ nI 12) ∧ (0 ≤ x5 ∧ x5 ≤ nI 1000)) ∧ S = 0 ∧ v = some (.int (-3)) ∧ Kp μ μ') ∨ (((0 ≤ x0 ∧ x0 ≤ 1) ∧ (1 ≤ x1 ∧ x1 ≤ nI 24) ∧ (1 ≤ x2 ∧ x2 ≤ nI 1000) ∧ (1 ≤ x3 ∧ x3 ≤ nI 1000) ∧ x2 ≤ x3 ∧ (1 ≤ x4 ∧ x4 ≤ nI 12) ∧ (0 ≤ x5 ∧ x5 ≤ nI 1000)) ∧ 0 < S ∧ v = some (.int (nI S)) ∧ RcB μ μ' q S N x0 x1 x2 x3 x4 x5 seed)) := by
  refine am_Ct.of (ls := [some (.ref 1), some (.int x0), some (.int x1), some (.int x2), some (.int x3), some (.int x4), some (.int x5), some (.int seed), none, none]) (by decide) (Nat.le_of_ble_eq_true rfl) rfl (fun C fx hnm => ?_)
  have hS := ht.s
  have hN := ht.n
  have hq := hb.z
  rw [hzq] at hq
  refine am_new fx dX6_race_0 (ci := 3) (by decide) (N := 6) rfl klX6_72 ktX3 knX3 (by decide) (by decide) (by decide) ?_
  rw [hzq]
  refine am_dup_ref fx dX6_race_3 ?_
  refine am_iload_n fx dX6_race_4 rfl ?_
  refine am_iload_n fx dX6_race_5 rfl ?_
  refine am_iload_n fx dX6_race_6 rfl ?_
  refine am_iload fx dX6_race_7 rfl ?_
  refine am_iload fx dX6_race_9 rfl ?_
  refine am_iload fx dX6_race_11 rfl ?_
  refine am_callI fx dX6_race_13 mkX6_74 (ct_X3_init (q := q) (by rw [mS_nw, if_pos hzq.symm]) x0 x1 x2 x3 x4 x5) rfl (Nat.le_of_ble_eq_true rfl) ⟨by decide, by decide⟩ ⟨Nat.le_of_ble_eq_true rfl, Nat.le_of_ble_eq_true rfl⟩ rfl ?_
  rintro _ _ ⟨rfl, rfl⟩
  obtain ⟨kb, sb, zb, f0, f1, f2, f3, f4, f5⟩ := ru_facts hzq x0 x1 x2 x3 x4 x5
  generalize mm_sI (mm_sI (mm_sI (mm_sI (mm_sI (mm_sI (mm_nw μ 3 0) q 0 x0) q 1 x1) q 2 x2) q 3 x3) q 4 x4) q 5 x5 = Mb at kb sb zb f0 f1 f2 f3 f4 f5 ⊢
  have hb1 : Bs Mb := hb.kp kb
  have ht1 : Tb Mb S N := ht.kp kb (by omega)
  refine am_astore fx dX6_race_16 (by decide) rfl ?_
  refine am_aload fx dX6_race_18 rfl ?_
  refine am_callV fx dX6_race_20 mkX6_77 (ct_X3_areWithinBounds hb1 sb) (congrArg Prod.fst sb) ⟨by decide, rfl⟩ rfl (Nat.le_of_ble_eq_true rfl) ⟨by decide, by decide⟩ ⟨Nat.le_of_ble_eq_true rfl, Nat.le_of_ble_eq_true rfl⟩ rfl ?_
  rintro _ _ ⟨rfl, rfl⟩
  rw [f0, f1, f2, f3, f4, f5]
  refine am_if_ne fx 29 dX6_race_23 (by decide) (fun c23 => ?_) (fun c23 => ?_)
  · skip
    have c23 := Classical.not_not.mp (fun z => c23 (bz_0.mpr z))
    refine am_aload_n fx dX6_race_29 rfl ?_
    refine am_getR fx dX6_race_30 fkX6_12 (by decide) (by decide) rfl (so6 hb1) (rf6_0 hb1) ?_
    refine am_getI fx dX6_race_33 fkX6_81 (by decide) (by decide) rfl (so5 hb1) ht1.1 ?_
    refine am_if_ne fx 42 dX6_race_36 (by decide) (fun c36 => ?_) (fun c36 => ?_)
    · skip
      have hS0 : 0 < S := by
        rcases Nat.eq_zero_or_pos S with z | z
        · exact absurd (by rw [z]; rfl) c36
        · exact z
      refine am_new fx dX6_race_42 (ci := 2) (by decide) (N := 15) rfl klX6_85 ktX2 knX2 (by decide) (by decide) (by decide) ?_
      rw [zb]
      have kc : Kp Mb (mm_nw Mb 2 0) := Kp.nw _ _ _
      have sc : mm_S (mm_nw Mb 2 0) (q + 1) = (2, 0) := by rw [mS_nw, if_pos zb.symm]
      have zc : mm_Z (mm_nw Mb 2 0) = q + 2 := by rw [mZ_nw, zb]
      generalize mm_nw Mb 2 0 = Mc at kc sc zc ⊢
      have hb2 : Bs Mc := hb1.kp kc
      have ht2 : Tb Mc S N := ht1.kp kc (by omega)
      have sq : mm_S Mc q = (3, 0) := (kc.2.1 q (by omega)).trans sb
      have kk := kb.tr kc
      have hlr : lrn Mc = lrn μ := funext fun k => by
        show decide (¬ mm_I Mc 20 k = 0) = _
        rw [kk.2.2.1 20 k (by omega)]
      refine am_dup_ref fx dX6_race_45 ?_
      refine am_aload_n fx dX6_race_46 rfl ?_
      refine am_getR fx dX6_race_47 fkX6_12 (by decide) (by decide) rfl (so6 hb2) (rf6_0 hb2) ?_
      refine am_aload_n fx dX6_race_50 rfl ?_
      refine am_getR fx dX6_race_51 fkX6_21 (by decide) (by decide) rfl (so6 hb2) (rf6_1 hb2) ?_
      refine am_aload fx dX6_race_54 rfl ?_
      refine am_callI fx dX6_race_56 mkX6_87 (ct_X2_init hb2 ht2 hq sq sc zc) rfl (Nat.le_of_ble_eq_true rfl) ⟨by decide, by decide⟩ ⟨Nat.le_of_ble_eq_true rfl, Nat.le_of_ble_eq_true rfl⟩ rfl ?_
      rintro _ ν ⟨rfl, k3, hr3, z3, e4, e10, e11, e12, e13, e15, e16, e19⟩
      have hb3 : Bs ν := hb2.kp2 k3 (by omega) (by omega)
      refine am_astore fx dX6_race_59 (by decide) rfl ?_
      refine am_aload fx dX6_race_61 rfl ?_
      refine am_iload fx dX6_race_63 rfl ?_
      refine am_callV fx dX6_race_65 mkX6_90 (ct_X2_begin hb3 hr3 seed) (so2 hr3) ⟨by decide, rfl⟩ rfl (Nat.le_of_ble_eq_true rfl) ⟨by decide, by decide⟩ ⟨Nat.le_of_ble_eq_true rfl, Nat.le_of_ble_eq_true rfl⟩ rfl ?_
      rintro _ _ ⟨rfl, rfl⟩
      have hbD : Bs (mm_sI (mm_fI ν (q + 19) (shuf ((cnt (lrn Mc) N) - 1) seed (mm_I ν (q + 19)))) (q + 1) 14 (woF (mm_I ν (q + 1) 10) (mm_I ν q 4) (mm_I ν (q + 1) 12) (nI (cnt (lrn Mc) N)) (mm_I ν q 5) (mm_I ν (q + 1) 13))) := hb3.fr ⟨rfl, rfl, rfl⟩
      have hrD : Rc (mm_sI (mm_fI ν (q + 19) (shuf ((cnt (lrn Mc) N) - 1) seed (mm_I ν (q + 19)))) (q + 1) 14 (woF (mm_I ν (q + 1) 10) (mm_I ν q 4) (mm_I ν (q + 1) 12) (nI (cnt (lrn Mc) N)) (mm_I ν q 5) (mm_I ν (q + 1) 13))) q (cnt (lrn Mc) N) := hr3.fr ⟨rfl, rfl, rfl⟩
      refine am_aload_n fx dX6_race_68 rfl ?_
      refine am_aload fx dX6_race_69 rfl ?_
      refine am_putR fx dX6_race_71 fkX6_39 (by decide) (by decide) rfl rfl (so6 hbD) ?_
      refine am_aload fx dX6_race_74 rfl ?_
      refine am_getI fx dX6_race_76 fkX6_94 (by decide) (by decide) rfl (so2 (hrD.sR14 _)) ((mI_ne (Or.inr (by decide))).trans ((mI_fIn (by omega)).trans e4)) ?_
      refine am_widen (k := (rmX6_race).cells) (n := (rmX6_race).slots) (by decide) (by decide) ?_
      exact am_iret fx dX6_race_79 (Or.inr (Or.inr ⟨c23, hS0, rfl, by rw [mR_sR, if_pos ⟨rfl, rfl⟩], hbD.sR14 _, hlr ▸ hrD.sR14 _, z3, fun a k ha => by rw [mI_sR, mI_ne (Or.inl (by omega)), mI_fIn (by omega), k3.2.1 a k (by omega), kk.2.2.1 a k (by omega)], fun a k ha => (k3.2.2.1 a k (by omega)).trans (kk.2.2.2.1 a k (by omega)), by
          have eq : ∀ k, mm_I (mm_sI (mm_fI ν (q + 19) (shuf ((cnt (lrn Mc) N) - 1) seed (mm_I ν (q + 19)))) (q + 1) 14 (woF (mm_I ν (q + 1) 10) (mm_I ν q 4) (mm_I ν (q + 1) 12) (nI (cnt (lrn Mc) N)) (mm_I ν q 5) (mm_I ν (q + 1) 13))) q k = mm_I Mb q k := fun k => by rw [mI_ne (Or.inl (by omega)), mI_fIn (by omega), k3.2.1 q k (by omega), kc.2.2.1 q k (by omega)]
          simp only [mI_sR, eq]
          exact ⟨f0, f1, f2, f3, f4, f5⟩, by rw [mI_sR, mI_ne (Or.inr (by decide)), mI_fIn (by omega), e4], by rw [mI_sR, mI_ne (Or.inr (by decide)), mI_fIn (by omega), e10], by rw [mI_sR, mI_ne (Or.inr (by decide)), mI_fIn (by omega), e11], by rw [mI_sR, mI_ne (Or.inr (by decide)), mI_fIn (by omega), e12], by rw [mI_sR, mI_ne (Or.inr (by decide)), mI_fIn (by omega), e13], by rw [mI_sR, mI_same, e10, e12, e13, hlr, k3.2.1 q 4 (by omega), k3.2.1 q 5 (by omega), kc.2.2.1 q 4 (by omega), kc.2.2.1 q 5 (by omega), f4, f5], fun k => by rw [mI_sR, mI_ne (Or.inl (by omega)), mI_fIn (by omega), e15], fun k => by rw [mI_sR, mI_ne (Or.inl (by omega)), mI_fIn (by omega), e16], fun k => by rw [mI_sR, mI_ne (Or.inl (by omega)), mI_fIs, hlr, funext e19, hlr]⟩))
    · skip
      have hS0 : S = 0 := by
        rcases Nat.eq_zero_or_pos S with z | z
        · exact z
        · exact absurd c36 (nI_ne0 z (by omega))
      refine am_bipush (v := (-3)) fx dX6_race_39 (by decide) ?_
      refine am_widen (k := (rmX6_race).cells) (n := (rmX6_race).slots) (by decide) (by decide) ?_
      exact am_iret fx dX6_race_41 (Or.inr (Or.inl ⟨c23, hS0, rfl, kb⟩))
  · skip
    have c23 := bz_0.mp c23
    refine am_bipush (v := (-2)) fx dX6_race_26 (by decide) ?_
    refine am_widen (k := (rmX6_race).cells) (n := (rmX6_race).slots) (by decide) (by decide) ?_
    exact am_iret fx dX6_race_28 (Or.inl ⟨c23, rfl, kb⟩)
