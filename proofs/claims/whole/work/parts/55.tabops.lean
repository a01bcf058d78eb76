/-! class and model answer alike: the table's calls -/
theorem JR.gen {μ ν : am_M} {S N S' N' q L En Rd rn t up dn least : Nat} {od dF : Nat → Nat} (h : JR μ S N q L En Rd rn t up dn least od dF) (hS : S ≤ 12) (hSS : S ≤ S') (hNN : N ≤ N') (hf : Fr μ ν)
    (e4 : ∀ s i, s < 12 → ¬ mm_I μ (4 + s) i = -1 → mm_I ν (4 + s) i = mm_I μ (4 + s) i) (e : ∀ a k, (a = 50 ∨ a = 51 ∨ 57 ≤ a) → mm_I ν a k = mm_I μ a k) (e46 : ∀ k, 6 ≤ k → k < 21 → mm_I ν 46 k = mm_I μ 46 k) : JR ν S' N' q L En Rd rn t up dn least od dF := by
  obtain ⟨h1, h2, h3, h4, h5, h6, h7, h8, h9, h10, h11, h12, h13, h14', h15, h16, h17, h18, h19⟩ := h
  have hE := h4.e
  have hq := h2.qq
  have eq0 : ∀ k, mm_I ν q k = mm_I μ q k := fun k => e _ _ (by omega)
  have eq1 : ∀ k, mm_I ν (q + 1) k = mm_I μ (q + 1) k := fun k => e _ _ (by omega)
  have elf : lfC ν q = lfC μ q := funext fun s => by simp only [lfC]; rw [e (q + 15) s (by omega)]
  refine ⟨by rw [hf.2.1]; exact h1, h2.fr hf, by rw [hf.2.2]; exact h3, ⟨(eq1 4).trans h4.1, (eq1 12).trans h4.2.1, h4.2.2⟩, ⟨h5.1, by omega, h5.2.2⟩, by rw [eq0]; exact h6, by rw [eq0, eq0, eq0]; exact h7, fun k hk => by rw [e46 _ (by omega) (by omega), eq0]; exact h8 k hk, by rw [e46 _ (by decide) (by decide), e46 _ (by decide) (by decide), e46 _ (by decide) (by decide)]; exact h9, fun i hi => ?_, fun s hs => by rw [e (q + 15) _ (by omega), e 51 _ (by omega)]; exact h11 s hs, by rw [eq1, e46 _ (by decide) (by decide)]; exact h12, by rw [e46 _ (by decide) (by decide), eq1]; exact h13, by rw [eq1]; exact h14', by rw [eq1]; exact h15, by rw [eq1, e46 _ (by decide) (by decide)]; exact h16, by rw [eq1, elf]; exact h17, fun s hs => by rw [e _ _ (by omega)]; exact h18 s hs, fun s r hs hr2 => ?_⟩
  · rw [e _ _ (by omega), e _ _ (by omega)]
    have := h10 i hi
    exact ⟨this.1, this.2.1, by omega⟩
  · have h20 := h19 s r hs hr2
    rw [e (q + 3 + s) r (by omega), e4 s (od r) (by omega) h20.2]
    exact h20
theorem J.up {μ ν : am_M} {S N S' N' : Nat} (hT : JT μ S N) (hj : (mm_R μ 1 4 = none ∧ mm_I μ 46 6 = -1) ∨ ∃ q L En Rd rn t up dn least od dF, JR μ S N q L En Rd rn t up dn least od dF) (hT' : JT ν S' N') (hSS : S ≤ S') (hNN : N ≤ N') (hf : Fr μ ν)
    (e4 : ∀ s i, s < 12 → ¬ mm_I μ (4 + s) i = -1 → mm_I ν (4 + s) i = mm_I μ (4 + s) i) (e : ∀ a k, (a = 50 ∨ a = 51 ∨ 57 ≤ a) → mm_I ν a k = mm_I μ a k) (e46 : ∀ k, 6 ≤ k → k < 21 → mm_I ν 46 k = mm_I μ 46 k) : J ν := by
  refine ⟨S', N', hT', ?_⟩
  rcases hj with ⟨h1, h2⟩ | ⟨q, L, En, Rd, rn, t, up, dn, least, od, dF, hR⟩
  · exact Or.inl ⟨by rw [hf.2.1]; exact h1, (e46 6 (by decide) (by decide)).trans h2⟩
  · exact Or.inr ⟨q, L, En, Rd, rn, t, up, dn, least, od, dF, hR.gen hT.t.s hSS hNN hf e4 e e46⟩
theorem jo_setting {E : am_E} {μ : am_M} (hJ : J μ) : am_Ct E yX6_setting cX6_setting 1 (some .int) rmX6_setting [.ref 1] μ (fun v μ' => ∃ a, v = some (.int a) ∧ Bs μ' ∧ am_Ct E yX7_setting cX7_setting 1 (some .int) rmX7_setting [.ref 46] μ' (fun v' μ'' => v' = some (.int a) ∧ J μ'')) := by
  have hJ0 := hJ
  obtain ⟨S, N, hT, hj⟩ := hJ0
  have hN := hT.t.n
  have hS := hT.t.s
  refine (ct_X6_setting hT.b hT.t).post ?_
  rintro _ _ (⟨c, rfl, rfl⟩ | ⟨c, rfl, rfl⟩)
  · refine ⟨_, rfl, hT.b, (ct_X7_setting hT.b hT.m).post ?_⟩
    rintro _ _ (⟨c2, rfl, rfl⟩ | ⟨c2, rfl, rfl⟩)
    · exact ⟨rfl, hJ.any (fun q _ => Qq.th _ _ _)⟩
    · omega
  · have hb : Bs (mm_sI μ 2 4 (nI (S + 1))) := hT.b.fr (Fr.sI _ _ _ _)
    refine ⟨_, rfl, hb, (ct_X7_setting hb (hT.m.keep (mI_ne (Or.inl (by decide))) (mI_ne (Or.inl (by decide))) (fun k => mI_ne (Or.inl (by decide))))).post ?_⟩
    rintro _ _ (⟨c2, rfl, rfl⟩ | ⟨c2, rfl, rfl⟩)
    · omega
    · refine ⟨rfl, ?_⟩
      obtain ⟨ν, hν⟩ : ∃ z, z = mm_sI (mm_sI (mm_sI μ 2 4 (nI (S + 1))) 46 0 0) 46 1 (nI (S + 1)) := ⟨_, rfl⟩
      rw [← hν]
      have hf : Fr μ ν := by rw [hν]; exact ⟨rfl, rfl, rfl⟩
      have e : ∀ a k, (a ≠ 2 ∨ k ≠ 4) → (a ≠ 46 ∨ (k ≠ 0 ∧ k ≠ 1)) → mm_I ν a k = mm_I μ a k := fun a k h1 h2 => by
        rw [hν, mI_ne (by omega), mI_ne (by omega), mI_ne (by omega)]
      have e24 : mm_I ν 2 4 = nI (S + 1) := by rw [hν, mI_ne (by omega), mI_ne (by omega), mI_same]
      have e461 : mm_I ν 46 1 = nI (S + 1) := by rw [hν, mI_same]
      have hT2 : JT ν (S + 1) N := by
        obtain ⟨h1, h2, h3, h4, h5, h6, h7⟩ := hT
        refine ⟨h1.fr hf, ⟨e24, (e _ _ (by omega) (by omega)).trans h2.2.1, by omega, hN⟩, ⟨e461, (e _ _ (by omega) (by omega)).trans h3.2.1, by omega, hN, fun s i hs hi => ?_, fun s i hs hi => ?_⟩, fun s i hs hi ho => (e _ _ (by omega) (by omega)).trans (h4 s i hs hi (by omega)), fun s hs => ?_, fun f i hf hi => ?_, fun i hi => ?_⟩
        · show _ = mm_I ν (4 + s) i + 1
          rw [e _ _ (by omega) (by omega), e _ _ (by omega) (by omega)]
          exact h3.2.2.2.2.1 s i hs hi
        · show mm_I ν (4 + s) i = -1 ∨ (0 ≤ mm_I ν (4 + s) i ∧ mm_I ν (4 + s) i ≤ 2000000)
          rw [e _ _ (by omega) (by omega)]
          exact h3.2.2.2.2.2 s i hs hi
        · rw [e 16 s (by omega) (by omega), h5 s hs]
          exact congrArg nI (cnt_congr (fun j hj => by rw [e (4 + s) j (by omega) (by omega)]))
        · rw [e 47 _ (by omega) (by omega), e (18 + f) i (by omega) (by omega)]
          exact h6 f i hf hi
        · rw [e 48 i (by omega) (by omega), h7 i hi]
          refine bz_congr ?_
          simp only [lrn]
          rw [e 20 i (by omega) (by omega)]
      exact J.up hT hj hT2 (by omega) (Nat.le_refl _) hf (fun s i hs _ => e _ _ (by omega) (by omega)) (fun a k ha => e _ _ (by omega) (by omega)) (fun k h1 h2 => e _ _ (by omega) (by omega))
theorem jo_instance {E : am_E} {μ : am_M} (hJ : J μ) (f g l : Int32) (hl : l = 0 ∨ l = 1) : am_Ct E yX6_instance cX6_instance 4 (some .int) rmX6_instance [.ref 1, .int f, .int g, .int l] μ (fun v μ' => ∃ a, v = some (.int a) ∧ Bs μ' ∧ am_Ct E yX7_instance cX7_instance 4 (some .int) rmX7_instance [.ref 46, .int f, .int g, .int l] μ' (fun v' μ'' => v' = some (.int a) ∧ J μ'')) := by
  have hJ0 := hJ
  obtain ⟨S, N, hT, hj⟩ := hJ0
  have hN := hT.t.n
  have hS := hT.t.s
  refine (ct_X6_instance hT.b hT.t f g l).post ?_
  rintro _ _ (⟨c, rfl, rfl⟩ | ⟨c, ⟨c1, rfl, rfl⟩ | ⟨c1, rfl, rfl⟩⟩)
  · refine ⟨_, rfl, hT.b, (ct_X7_instance hT.b hT.m f g l hl).post ?_⟩
    rintro _ _ (⟨c2, rfl, rfl⟩ | ⟨c2, _⟩)
    · exact ⟨rfl, hJ.any (fun q _ => Qq.th _ _ _)⟩
    · exact absurd c2 c
  · refine ⟨_, rfl, hT.b, (ct_X7_instance hT.b hT.m f g l hl).post ?_⟩
    rintro _ _ (⟨c2, rfl, rfl⟩ | ⟨c2, ⟨c3, rfl, rfl⟩ | ⟨c3, rfl, rfl⟩⟩)
    · exact absurd c c2
    · exact ⟨rfl, hJ.any (fun q _ => Qq.th _ _ _)⟩
    · omega
  · obtain ⟨ξ, hξ⟩ : ∃ z, z = mm_sI (mm_sI (mm_sI (mm_sI μ 18 N f) 19 N g) 20 N (bz (l = 0))) 2 5 (nI (N + 1)) := ⟨_, rfl⟩
    rw [← hξ]
    have hfx : Fr μ ξ := by rw [hξ]; exact ⟨rfl, rfl, rfl⟩
    have hb : Bs ξ := hT.b.fr hfx
    have ex : ∀ a k, (a ≠ 2 ∨ k ≠ 5) → ((a ≠ 18 ∧ a ≠ 19 ∧ a ≠ 20) ∨ k ≠ N) → mm_I ξ a k = mm_I μ a k := fun a k h1 h2 => by
      rw [hξ, mI_ne (by omega), mI_ne (by omega), mI_ne (by omega), mI_ne (by omega)]
    have ex25 : mm_I ξ 2 5 = nI (N + 1) := by rw [hξ, mI_same]
    have ex18 : mm_I ξ 18 N = f := by rw [hξ, mI_ne (by omega), mI_ne (by omega), mI_ne (by omega), mI_same]
    have ex19 : mm_I ξ 19 N = g := by rw [hξ, mI_ne (by omega), mI_ne (by omega), mI_same]
    have ex20 : mm_I ξ 20 N = bz (l = 0) := by rw [hξ, mI_ne (by omega), mI_same]
    refine ⟨_, rfl, hb, (ct_X7_instance hb (hT.m.keep (ex _ _ (by omega) (by omega)) (ex _ _ (by omega) (by omega)) (fun k => ex _ _ (by omega) (by omega))) f g l hl).post ?_⟩
    rintro _ _ (⟨c2, rfl, rfl⟩ | ⟨c2, ⟨c3, rfl, rfl⟩ | ⟨c3, rfl, rfl⟩⟩)
    · exact absurd c c2
    · omega
    · refine ⟨rfl, ?_⟩
      obtain ⟨ν, hν⟩ : ∃ z, z = mm_sI (mm_sI (mm_sI (mm_sI (mm_sI ξ 46 0 0) 47 (2 * N) f) 47 (2 * N + 1) g) 48 N l) 46 2 (nI (N + 1)) := ⟨_, rfl⟩
      rw [← hν]
      have hf : Fr μ ν := hfx.tr (by rw [hν]; exact ⟨rfl, rfl, rfl⟩)
      have ey : ∀ a k, (a ≠ 46 ∨ (k ≠ 0 ∧ k ≠ 2)) → (a ≠ 47 ∨ (k ≠ 2 * N ∧ k ≠ 2 * N + 1)) → (a ≠ 48 ∨ k ≠ N) → mm_I ν a k = mm_I ξ a k := fun a k h1 h2 h3 => by
        rw [hν, mI_ne (by omega), mI_ne (by omega), mI_ne (by omega), mI_ne (by omega), mI_ne (by omega)]
      have e : ∀ a k, (a ≠ 2 ∨ k ≠ 5) → ((a ≠ 18 ∧ a ≠ 19 ∧ a ≠ 20) ∨ k ≠ N) → (a ≠ 46 ∨ (k ≠ 0 ∧ k ≠ 2)) → (a ≠ 47 ∨ (k ≠ 2 * N ∧ k ≠ 2 * N + 1)) → (a ≠ 48 ∨ k ≠ N) → mm_I ν a k = mm_I μ a k := fun a k h1 h2 h3 h4 h5 => (ey a k h3 h4 h5).trans (ex a k h1 h2)
      have e25 : mm_I ν 2 5 = nI (N + 1) := (ey _ _ (by omega) (by omega) (by omega)).trans ex25
      have e18 : mm_I ν 18 N = f := (ey _ _ (by omega) (by omega) (by omega)).trans ex18
      have e19 : mm_I ν 19 N = g := (ey _ _ (by omega) (by omega) (by omega)).trans ex19
      have e20 : mm_I ν 20 N = bz (l = 0) := (ey _ _ (by omega) (by omega) (by omega)).trans ex20
      have e462 : mm_I ν 46 2 = nI (N + 1) := by rw [hν, mI_same]
      have e470 : mm_I ν 47 (2 * N) = f := by rw [hν, mI_ne (by omega), mI_ne (by omega), mI_ne (by omega), mI_same]
      have e471 : mm_I ν 47 (2 * N + 1) = g := by rw [hν, mI_ne (by omega), mI_ne (by omega), mI_same]
      have e48 : mm_I ν 48 N = l := by rw [hν, mI_ne (by omega), mI_same]
      have hT2 : JT ν S (N + 1) := by
        obtain ⟨h1, h2, h3, h4, h5, h6, h7⟩ := hT
        refine ⟨h1.fr hf, ⟨(e _ _ (by omega) (by omega) (by omega) (by omega) (by omega)).trans h2.1, e25, by omega, by omega⟩, ⟨(e _ _ (by omega) (by omega) (by omega) (by omega) (by omega)).trans h3.1, e462, by omega, by omega, fun s i hs hi => ?_, fun s i hs hi => ?_⟩, fun s i hs hi ho => (e _ _ (by omega) (by omega) (by omega) (by omega) (by omega)).trans (h4 s i hs hi (by omega)), fun s hs => ?_, fun f' i hf hi => ?_, fun i hi => ?_⟩
        · show _ = mm_I ν (4 + s) i + 1
          rw [e _ _ (by omega) (by omega) (by omega) (by omega) (by omega), e _ _ (by omega) (by omega) (by omega) (by omega) (by omega)]
          exact h3.2.2.2.2.1 s i hs hi
        · show mm_I ν (4 + s) i = -1 ∨ (0 ≤ mm_I ν (4 + s) i ∧ mm_I ν (4 + s) i ≤ 2000000)
          rw [e _ _ (by omega) (by omega) (by omega) (by omega) (by omega)]
          exact h3.2.2.2.2.2 s i hs hi
        · rw [e 16 s (by omega) (by omega) (by omega) (by omega) (by omega), h5 s hs]
          exact congrArg nI (cnt_congr (fun j hj => by rw [e (4 + s) j (by omega) (by omega) (by omega) (by omega) (by omega)]))
        · rcases Nat.lt_or_ge i N with hiN | hiN
          · rw [e 47 _ (by omega) (by omega) (by omega) (by omega) (by omega), e (18 + f') i (by omega) (by omega) (by omega) (by omega) (by omega)]
            exact h6 f' i hf hiN
          · have : i = N := by omega
            subst this
            rcases (by omega : f' = 0 ∨ f' = 1) with z | z
            · subst z
              show mm_I ν 47 (2 * i) = mm_I ν 18 i ∧ 0 ≤ mm_I ν 18 i ∧ mm_I ν 18 i ≤ nI 100
              rw [e470, e18]
              exact ⟨rfl, c.1⟩
            · subst z
              show mm_I ν 47 (2 * i + 1) = mm_I ν 19 i ∧ 0 ≤ mm_I ν 19 i ∧ mm_I ν 19 i ≤ nI 100
              rw [e471, e19]
              exact ⟨rfl, c.2⟩
        · rcases Nat.lt_or_ge i N with hiN | hiN
          · rw [e 48 i (by omega) (by omega) (by omega) (by omega) (by omega), h7 i hiN]
            refine bz_congr ?_
            simp only [lrn]
            rw [e 20 i (by omega) (by omega) (by omega) (by omega) (by omega)]
          · have : i = N := by omega
            subst this
            rw [e48]
            rcases hl with z | z
            · have h8 : lrn ν i = true := by
                simp only [lrn]
                rw [e20, z]
                decide
              rw [z]
              exact bz_f (fun h => h h8)
            · have h8 : ¬ lrn ν i = true := by
                simp only [lrn]
                rw [e20, z]
                decide
              rw [z]
              exact bz_t h8
      exact J.up hT hj hT2 (Nat.le_refl _) (by omega) hf (fun s i hs _ => e _ _ (by omega) (by omega) (by omega) (by omega) (by omega)) (fun a k ha => e _ _ (by omega) (by omega) (by omega) (by omega) (by omega)) (fun k h1 h2 => e _ _ (by omega) (by omega) (by omega) (by omega) (by omega))
theorem cnt_set {b b' : Nat → Bool} {j : Nat} (h0 : ¬ b j = true) (h1 : b' j = true) (he : ∀ i, i ≠ j → b' i = b i) : ∀ n, cnt b' n = cnt b n + (if j < n then 1 else 0)
  | 0 => rfl
  | n + 1 => by
    have ih := cnt_set h0 h1 he n
    by_cases hn : n = j
    · subst hn
      rw [cnt_t h1, cnt_f h0, ih, if_neg (by omega), if_pos (by omega)]
    · by_cases hb : b n = true
      · rw [cnt_t hb, cnt_t ((he n hn).trans hb), ih]
        by_cases hj : j < n
        · rw [if_pos hj, if_pos (by omega)]
        · rw [if_neg hj, if_neg (by omega)]
      · rw [cnt_f hb, cnt_f (fun z => hb ((he n hn) ▸ z)), ih]
        by_cases hj : j < n
        · rw [if_pos hj, if_pos (by omega)]
        · rw [if_neg hj, if_neg (by omega)]
theorem rg_m1 {x : Int32} : (x = -1 ∨ (0 ≤ x ∧ x ≤ 1000000)) ↔ (-1 ≤ x ∧ x ≤ 1000000) := by
  simp only [Int32.le_iff_toInt_le, ← Int32.toInt_inj]
  have a1 : (-1 : Int32).toInt = -1 := rfl
  have a2 : (0 : Int32).toInt = 0 := rfl
  have a3 : (1000000 : Int32).toInt = 1000000 := rfl
  rw [a1, a2, a3]
  omega
theorem rg_new {x : Int32} (h : x = -1 ∨ (0 ≤ x ∧ x ≤ 1000000)) : (if x < 0 then (2000001 : Int32) else x + 1) = (if x = -1 then 2000000 else x) + 1 ∧ (0 ≤ (if x = -1 then (2000000 : Int32) else x) ∧ (if x = -1 then (2000000 : Int32) else x) ≤ 2000000) ∧ ¬ (if x = -1 then (2000000 : Int32) else x) = -1 := by
  rcases h with z | ⟨z1, z2⟩
  · subst z
    decide
  · have h1 : ¬ x < 0 := Int32.not_lt.mpr z1
    have h2 : ¬ x = -1 := fun z => by rw [z] at z1; exact absurd z1 (by decide)
    rw [if_neg h1, if_neg h2]
    exact ⟨rfl, ⟨z1, Int32.le_trans z2 (by decide)⟩, h2⟩
theorem jo_cost {E : am_E} {μ : am_M} (hJ : J μ) (s i x : Int32) : am_Ct E yX6_cost cX6_cost 4 (some .int) rmX6_cost [.ref 1, .int s, .int i, .int x] μ (fun v μ' => ∃ a, v = some (.int a) ∧ Bs μ' ∧ am_Ct E yX7_cost cX7_cost 6 (some .int) rmX7_cost [.ref 46, .int s, .int i, .int x] μ' (fun v' μ'' => v' = some (.int a) ∧ J μ'')) := by
  have hJ0 := hJ
  obtain ⟨S, N, hT, hj⟩ := hJ0
  have hN := hT.t.n
  have hS := hT.t.s
  refine (ct_X6_cost hT.b hT.t s i x).post ?_
  rintro _ _ (⟨c, rfl, rfl⟩ | ⟨c, c1, rfl, rfl⟩ | ⟨c, c1, c2, rfl, rfl⟩ | ⟨c1, c2, s', i', rfl, rfl, hs, hi, rfl, rfl⟩)
  · refine ⟨_, rfl, hT.b, (ct_X7_cost hT.b hT.m s i x).post ?_⟩
    rintro _ _ (⟨d, rfl, rfl⟩ | ⟨d, _⟩ | ⟨d, _⟩)
    · exact ⟨rfl, hJ.any (fun q _ => Qq.th _ _ _)⟩
    · exact absurd d c
    · exact absurd d c
  · refine ⟨_, rfl, hT.b, (ct_X7_cost hT.b hT.m s i x).post ?_⟩
    rintro _ _ (⟨d, _⟩ | ⟨d, d1, rfl, rfl⟩ | ⟨d, d1, _⟩)
    · exact absurd c d
    · exact ⟨rfl, hJ.any (fun q _ => Qq.th _ _ _)⟩
    · exact absurd (rg_m1.mpr d1) c1
  · refine ⟨_, rfl, hT.b, (ct_X7_cost hT.b hT.m s i x).post ?_⟩
    rintro _ _ (⟨d, _⟩ | ⟨d, d1, _⟩ | ⟨d, d1, s', i', hs, hi, rfl, rfl, ⟨d2, rfl, rfl⟩ | ⟨d2, _⟩⟩)
    · exact absurd c d
    · exact absurd (rg_m1.mp c1) d1
    · exact ⟨rfl, hJ.any (fun q _ => Qq.th _ _ _)⟩
    · rw [co_in hs hi hS hN] at c2
      exact absurd d2 c2
  · rw [co_in hs hi hS hN] at c2
    obtain ⟨n1, n2, n3⟩ := rg_new c1
    obtain ⟨cv, hcv⟩ : ∃ z, z = (if x = -1 then (2000000 : Int32) else x) := ⟨_, rfl⟩
    rw [← hcv] at n1 n2 n3 ⊢
    obtain ⟨ξ, hξ⟩ : ∃ z, z = mm_sI (mm_sI μ (4 + s') i' cv) 16 s' (mm_I μ 16 s' + 1) := ⟨_, rfl⟩
    rw [← hξ]
    have hfx : Fr μ ξ := by rw [hξ]; exact ⟨rfl, rfl, rfl⟩
    have hb : Bs ξ := hT.b.fr hfx
    have ex : ∀ a k, (a ≠ 16 ∨ k ≠ s') → (a ≠ 4 + s' ∨ k ≠ i') → mm_I ξ a k = mm_I μ a k := fun a k h1 h2 => by
      rw [hξ, mI_ne (by omega), mI_ne (by omega)]
    have ex16 : mm_I ξ 16 s' = mm_I μ 16 s' + 1 := by rw [hξ, mI_same]
    have ex4 : mm_I ξ (4 + s') i' = cv := by rw [hξ, mI_ne (by omega), mI_same]
    refine ⟨_, rfl, hb, (ct_X7_cost hb (hT.m.keep (ex _ _ (by omega) (by omega)) (ex _ _ (by omega) (by omega)) (fun k => ex _ _ (by omega) (by omega))) (nI s') (nI i') x).post ?_⟩
    have hc : (0 ≤ nI s' ∧ nI s' < nI S) ∧ (0 ≤ nI i' ∧ nI i' < nI N) := ⟨⟨nI_pos' (by omega), nI_lt hs (by omega)⟩, nI_pos' (by omega), nI_lt hi (by omega)⟩
    rintro _ ν (⟨d, _⟩ | ⟨d, d1, _⟩ | ⟨d, d1, s2, i2, hs2, hi2, he1, he2, ⟨d2, _⟩ | ⟨d2, hν, rfl⟩⟩)
    · exact absurd hc d
    · exact absurd (rg_m1.mp c1) d1
    · have z1 := (nI_eq (by omega) (by omega)).mp he1
      have z2 := (nI_eq (by omega) (by omega)).mp he2
      subst z1 z2
      exact absurd c2 d2
    · have z1 := (nI_eq (by omega) (by omega)).mp he1
      have z2 := (nI_eq (by omega) (by omega)).mp he2
      subst z1 z2
      rw [n1] at hν
      have hf : Fr μ ν := hfx.tr (by rw [hν]; exact ⟨rfl, rfl, rfl⟩)
      have ey : ∀ a k, (a ≠ 46 ∨ k ≠ 0) → (a ≠ 49 ∨ k ≠ 24 * s' + i') → mm_I ν a k = mm_I ξ a k := fun a k h1 h2 => by
        rw [hν, mI_ne (by omega), mI_ne (by omega)]
      have e : ∀ a k, (a ≠ 16 ∨ k ≠ s') → (a ≠ 4 + s' ∨ k ≠ i') → (a ≠ 46 ∨ k ≠ 0) → (a ≠ 49 ∨ k ≠ 24 * s' + i') → mm_I ν a k = mm_I μ a k := fun a k h1 h2 h3 h4 => (ey a k h3 h4).trans (ex a k h1 h2)
      have e49 : mm_I ν 49 (24 * s' + i') = cv + 1 := by rw [hν, mI_same]
      have e16 : mm_I ν 16 s' = mm_I μ 16 s' + 1 := (ey _ _ (by omega) (by omega)).trans ex16
      have e4 : mm_I ν (4 + s') i' = cv := (ey _ _ (by omega) (by omega)).trans ex4
      have hcn : cnt (fun k => decide (¬ mm_I ν (4 + s') k = -1)) 24 = cnt (fun k => decide (¬ mm_I μ (4 + s') k = -1)) 24 + 1 := by
        have := cnt_set (b := fun k => decide (¬ mm_I μ (4 + s') k = -1)) (b' := fun k => decide (¬ mm_I ν (4 + s') k = -1)) (j := i') (by simp [c2]) (by simp [e4, n3]) (fun k hk => by
          show decide (¬ mm_I ν (4 + s') k = -1) = decide (¬ mm_I μ (4 + s') k = -1)
          rw [e (4 + s') k (by omega) (by omega) (by omega) (by omega)]) 24
        rw [this, if_pos (by omega)]
      have hm49 : ∀ s i, s < 12 → i < 24 → mm_I ν 49 (24 * s + i) = mm_I ν (4 + s) i + 1 := fun s i hs0 hi0 => by
        by_cases hz : s = s' ∧ i = i'
        · obtain ⟨rfl, rfl⟩ := hz
          rw [e49, e4]
        · rw [e 49 _ (by omega) (by omega) (by omega) (by omega), e (4 + s) i (by omega) (by omega) (by omega) (by omega)]
          exact hT.m.2.2.2.2.1 s i hs0 hi0
      have h16 : ∀ s, s < 12 → mm_I ν 16 s = nI (cnt (fun k => decide (¬ mm_I ν (4 + s) k = -1)) 24) := fun s hs0 => by
        by_cases hz : s = s'
        · subst hz
          rw [e16, hT.2.2.2.2.1 s hs0, hcn, nI_1]
        · rw [e 16 s (by omega) (by omega) (by omega) (by omega), hT.2.2.2.2.1 s hs0]
          exact congrArg nI (cnt_congr (fun j hj => by rw [e (4 + s) j (by omega) (by omega) (by omega) (by omega)]))
      refine ⟨?_, ?_⟩
      · rw [← e16, h16 s' (by omega)]
        refine congrArg (fun z => some (Value.int (nI z))) (cnt_congr (fun k hk => ?_))
        show decide (¬ mm_I ν 49 (24 * s' + k) = 0) = decide (¬ mm_I ν (4 + s') k = -1)
        rw [hm49 s' k (by omega) hk]
        refine decide_eq_decide.mpr (not_congr ⟨fun z => ?_, fun z => by rw [z]; rfl⟩)
        have : mm_I ν (4 + s') k + 1 - 1 = 0 - 1 := by rw [z]
        rw [Int32.add_sub_cancel] at this
        exact this
      · have hT2 : JT ν S N := by
          obtain ⟨h1, h2, h3, h4, h5, h6, h7⟩ := hT
          refine ⟨h1.fr hf, h2.keep (e _ _ (by omega) (by omega) (by omega) (by omega)) (e _ _ (by omega) (by omega) (by omega) (by omega)), ⟨(e _ _ (by omega) (by omega) (by omega) (by omega)).trans h3.1, (e _ _ (by omega) (by omega) (by omega) (by omega)).trans h3.2.1, hS, hN, hm49, fun s i hs0 hi0 => ?_⟩, fun s i hs0 hi0 ho => ?_, h16, fun f i hf hi => ?_, fun i hi => ?_⟩
          · show mm_I ν (4 + s) i = -1 ∨ (0 ≤ mm_I ν (4 + s) i ∧ mm_I ν (4 + s) i ≤ 2000000)
            by_cases hz : s = s' ∧ i = i'
            · obtain ⟨rfl, rfl⟩ := hz
              rw [e4]
              exact Or.inr n2
            · rw [e (4 + s) i (by omega) (by omega) (by omega) (by omega)]
              exact h3.2.2.2.2.2 s i hs0 hi0
          · rw [e (4 + s) i (by omega) (by omega) (by omega) (by omega)]
            exact h4 s i hs0 hi0 ho
          · rw [e 47 _ (by omega) (by omega) (by omega) (by omega), e (18 + f) i (by omega) (by omega) (by omega) (by omega)]
            exact h6 f i hf hi
          · rw [e 48 i (by omega) (by omega) (by omega) (by omega), h7 i hi]
            refine bz_congr ?_
            simp only [lrn]
            rw [e 20 i (by omega) (by omega) (by omega) (by omega)]
        refine J.up hT hj hT2 (Nat.le_refl _) (Nat.le_refl _) hf (fun s i hs0 h0 => ?_) (fun a k ha => e _ _ (by omega) (by omega) (by omega) (by omega)) (fun k h1 h2 => e _ _ (by omega) (by omega) (by omega) (by omega))
        by_cases hz : s = s' ∧ i = i'
        · obtain ⟨rfl, rfl⟩ := hz
          exact absurd c2 h0
        · exact e (4 + s) i (by omega) (by omega) (by omega) (by omega)
