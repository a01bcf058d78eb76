/-! class and model answer alike: race -/
theorem wo_ov {n rd pl : Nat} {le bg rn : Int32} (h1 : 1 ≤ n) (h2 : n ≤ 12) (h3 : rd ≤ pl) (h4 : pl ≤ 24) : woF (nI n) le (nI rd) (nI pl) bg rn = ovF (nI n) le (nI rd) (nI pl) bg rn := by
  have a1 : nI n ≤ 1 ↔ nI n = 1 := (nI_leI (b := 1) (by omega) (by decide)).trans (Iff.trans ⟨fun h => by omega, fun h => by omega⟩ (nI_eq (b := 1) (by omega) (by decide)).symm)
  have a2 : nI pl ≤ nI rd ↔ nI rd = nI pl := (nI_leI (by omega) (by omega)).trans (Iff.trans ⟨fun h => by omega, fun h => by omega⟩ (nI_eq (by omega) (by omega)).symm)
  unfold woF ovF
  simp only [a1, a2]
theorem wo_0 {n le rd L bg rn : Int32} (h : woF n le rd L bg rn = 0) : ¬ L ≤ rd := by
  intro hl
  unfold woF at h
  by_cases c : n ≤ 1 ∨ n ≤ le
  · rw [if_pos c] at h
    exact absurd h (by decide)
  · rw [if_neg c, if_pos hl] at h
    exact absurd h (by decide)
theorem od_ex (lr : Nat → Bool) (N : Nat) (seed : Int32) : ∃ od : Nat → Nat, ∀ i, i < cnt lr N → shuf (cnt lr N - 1) seed (fil lr (fun _ => 0) N) i = nI (od i) ∧ od i < N := by
  have h : ∀ i, ∃ o, i < cnt lr N → shuf (cnt lr N - 1) seed (fil lr (fun _ => 0) N) i = nI o ∧ o < N := fun i => by
    by_cases hi : i < cnt lr N
    · obtain ⟨o, h1, h2⟩ := shuf_in (n := cnt lr N) (P := fun x => ∃ o : Nat, o < N ∧ x = nI o) (cnt lr N - 1) seed (fil lr (fun _ => 0) N) (by omega) (fun j hj => by
        obtain ⟨o, h1, _, h3, _⟩ := fil_in lr (fun _ => 0) N j hj
        exact ⟨o, h1, h3⟩) i hi
      exact ⟨o, fun _ => ⟨h2, h1⟩⟩
    · exact ⟨0, fun h => absurd h hi⟩
  exact ⟨fun i => Classical.choose (h i), fun i hi => Classical.choose_spec (h i) hi⟩
theorem JR.new {μ μ' μ'' : am_M} {S N q : Nat} {x0 x1 x2 x3 x4 x5 seed : Int32} (hT : JT μ S N) (hS0 : 0 < S) (hq : mm_Z μ = q)
    (hr : (0 ≤ x0 ∧ x0 ≤ 1) ∧ (1 ≤ x1 ∧ x1 ≤ nI 24) ∧ (1 ≤ x2 ∧ x2 ≤ nI 1000) ∧ (1 ≤ x3 ∧ x3 ≤ nI 1000) ∧ x2 ≤ x3 ∧ (1 ≤ x4 ∧ x4 ≤ nI 12) ∧ (0 ≤ x5 ∧ x5 ≤ nI 1000))
    (hB : RcB μ μ' q S N x0 x1 x2 x3 x4 x5 seed) (hM : RcM μ' μ'' S N (lrn μ) x0 x1 x2 x3 x4 x5 seed) : J μ'' := by
  have hS := hT.t.s
  have hN := hT.t.n
  have hq57 : 57 ≤ q := hq ▸ hT.b.z
  obtain ⟨b1, b2, b3, b4, b5, b6, b7, b8, b9, b10, b11, b12, b13, b14, b15, b16⟩ := hB
  obtain ⟨m1, m2, m3, m4, m6, m7, m8, m9, m10, m11, m12, m13, m15, m16, m17, m18, m51, m50⟩ := hM
  have hL : cnt (lrn μ) N ≤ 24 := Nat.le_trans (cnt_le _ _) hN
  have e : ∀ a k, a < q → a ≠ 46 → a ≠ 50 → a ≠ 51 → mm_I μ'' a k = mm_I μ a k := fun a k h1 h2 h3 h4 => (m2 a k h2 h3 h4).trans (b5 a k h1)
  have eq : ∀ a k, q ≤ a → mm_I μ'' a k = mm_I μ' a k := fun a k h1 => m2 a k (by omega) (by omega) (by omega)
  have hT2 : JT μ'' S N := hT.of (b2.fr m1) (fun a k ha => e a k (by omega) (by omega) (by omega) (by omega)) ((m4 1 (by decide) (by decide)).trans (b5 _ _ (by omega))) ((m4 2 (by decide) (by decide)).trans (b5 _ _ (by omega)))
  obtain ⟨od, hod⟩ := od_ex (lrn μ) N seed
  obtain ⟨k0, hk0, rfl⟩ := rg_le (n := 1) hr.1 (by decide)
  obtain ⟨up, hup, rfl⟩ := rg_le (n := 1000) ⟨Int32.le_trans (by decide) hr.2.2.1.1, hr.2.2.1.2⟩ (by decide)
  obtain ⟨dn, hdn, rfl⟩ := rg_le (n := 1000) ⟨Int32.le_trans (by decide) hr.2.2.2.1.1, hr.2.2.2.1.2⟩ (by decide)
  obtain ⟨le, hle, rfl⟩ := rg_le (n := 12) ⟨Int32.le_trans (by decide) hr.2.2.2.2.2.1.1, hr.2.2.2.2.2.1.2⟩ (by decide)
  have hle1 : 1 ≤ le := (nI_leI (a := 1) (by decide) (by omega)).mp hr.2.2.2.2.2.1.1
  have hz0 : ∀ s, mm_I μ'' (q + 15) s = 0 := fun s => (eq _ _ (by omega)).trans (b14 s)
  refine ⟨S, N, hT2, Or.inr ⟨q, cnt (lrn μ) N, S, 0, 0, 0, up, dn, le, od, fun _ => 0, ?_⟩⟩
  refine ⟨by rw [m1.2.1]; exact b1, b3.fr m1, by rw [m1.2.2, b4]; exact Nat.le_refl _, ⟨(eq _ _ (by omega)).trans b8, (eq _ _ (by omega)).trans b11, hS, by omega⟩, ⟨hS0, Nat.le_refl _, by omega⟩, ?_, ?_, ?_, ⟨m12, m13, m15⟩, fun i hi => ?_, fun s hs => ?_, ⟨(eq _ _ (by omega)).trans b12, m16, by omega⟩, ?_, ?_, fun _ s hs => by omega, ⟨(eq _ _ (by omega)).trans b10, m18, hS0, rfl⟩, ?_, fun s hs => ?_, fun s r hs hr2 => ?_⟩
  · rw [eq _ _ (by omega), b7.1]
    rcases (by omega : k0 = 0 ∨ k0 = 1) with z | z <;> subst z
    · exact Or.inl rfl
    · exact Or.inr rfl
  · rw [eq _ _ (by omega), eq _ _ (by omega), eq _ _ (by omega)]
    exact ⟨b7.2.2.1, b7.2.2.2.1, b7.2.2.2.2.1, hup, hdn, hle1, hle⟩
  · intro k hk
    rw [eq q k (by omega)]
    rcases (by omega : k = 0 ∨ k = 1 ∨ k = 2 ∨ k = 3 ∨ k = 4 ∨ k = 5) with z | z | z | z | z | z <;> subst z
    · exact m6.trans b7.1.symm
    · exact m7.trans b7.2.1.symm
    · exact m8.trans b7.2.2.1.symm
    · exact m9.trans b7.2.2.2.1.symm
    · exact m10.trans b7.2.2.2.2.1.symm
    · exact m11.trans b7.2.2.2.2.2.symm
  · have h1 := hod i hi
    exact ⟨(eq _ _ (by omega)).trans ((b16 i).trans h1.1), (m50 i hi).trans h1.1, h1.2⟩
  · exact ⟨hz0 s, (m51 s hs).trans (hz0 s).symm, Nat.zero_le _⟩
  · rw [eq (q + 1) 14 (by omega), m17, b13]
    exact (wo_ov (rd := 0) hS0 hS (Nat.zero_le _) hL).symm
  · rw [eq _ _ (by omega), b13]
    intro h
    rcases Nat.eq_zero_or_pos (cnt (lrn μ) N) with z | z
    · rw [z] at h
      exact absurd (Int32.le_refl _) (wo_0 h)
    · exact z
  · rw [eq _ _ (by omega), b9, cnt_all (fun s => by simp only [lfC]; rw [hz0 s]; rfl)]
  · exact (eq _ _ (by omega)).trans (b15 s)
  · have : ruF (fun _ => 0) 0 0 s = 0 := by simp [ruF]
    omega
theorem jo_race {E : am_E} {μ : am_M} (hJ : J μ) (x0 x1 x2 x3 x4 x5 seed : Int32) : am_Ct E yX6_race cX6_race 10 (some .int) rmX6_race [.ref 1, .int x0, .int x1, .int x2, .int x3, .int x4, .int x5, .int seed] μ (fun v μ' => ∃ a, v = some (.int a) ∧ Bs μ' ∧ am_Ct E yX7_race cX7_race 12 (some .int) rmX7_race [.ref 46, .int x0, .int x1, .int x2, .int x3, .int x4, .int x5, .int seed] μ' (fun v' μ'' => v' = some (.int a) ∧ J μ'')) := by
  have hJ0 := hJ
  obtain ⟨S, N, hT, _⟩ := hJ0
  have hz := hT.b.z
  refine (ct_X6_race hT.b hT.t rfl x0 x1 x2 x3 x4 x5 seed).post ?_
  rintro _ μ' (⟨c, rfl, hk⟩ | ⟨c, c1, rfl, hk⟩ | ⟨c, c1, rfl, hB⟩)
  · have hJ' := hJ.kp hk
    have hb := hT.b.kp hk
    refine ⟨_, rfl, hb, (ct_X7_race hb (hT.m.keep (hk.2.2.1 _ _ (by omega)) (hk.2.2.1 _ _ (by omega)) (fun k => hk.2.2.1 _ _ (by omega))) (lr := lrn μ) (fun i hi => (hk.2.2.1 _ _ (by omega)).trans (hT.h i hi)) x0 x1 x2 x3 x4 x5 seed).post ?_⟩
    rintro _ _ (⟨d, rfl, rfl⟩ | ⟨d, _⟩ | ⟨d, _⟩)
    · exact ⟨rfl, hJ'.any (fun q _ => Qq.th _ _ _)⟩
    · exact absurd d c
    · exact absurd d c
  · have hJ' := hJ.kp hk
    have hb := hT.b.kp hk
    refine ⟨_, rfl, hb, (ct_X7_race hb (hT.m.keep (hk.2.2.1 _ _ (by omega)) (hk.2.2.1 _ _ (by omega)) (fun k => hk.2.2.1 _ _ (by omega))) (lr := lrn μ) (fun i hi => (hk.2.2.1 _ _ (by omega)).trans (hT.h i hi)) x0 x1 x2 x3 x4 x5 seed).post ?_⟩
    rintro _ _ (⟨d, _⟩ | ⟨d, d1, rfl, rfl⟩ | ⟨d, d1, _⟩)
    · exact absurd c d
    · exact ⟨rfl, hJ'.any (fun q _ => Qq.th _ _ _)⟩
    · omega
  · have hb : Bs μ' := hB.2.1
    have e : ∀ a k, a < mm_Z μ → mm_I μ' a k = mm_I μ a k := hB.2.2.2.2.1
    refine ⟨_, rfl, hb, (ct_X7_race hb (hT.m.keep (e _ _ (by omega)) (e _ _ (by omega)) (fun k => e _ _ (by omega))) (lr := lrn μ) (fun i hi => (e _ _ (by omega)).trans (hT.h i hi)) x0 x1 x2 x3 x4 x5 seed).post ?_⟩
    rintro _ μ'' (⟨d, _⟩ | ⟨d, d1, _⟩ | ⟨d, d1, rfl, hM⟩)
    · exact absurd c d
    · omega
    · exact ⟨rfl, JR.new hT c1 rfl c hB hM⟩
