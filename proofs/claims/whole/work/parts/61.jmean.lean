/-! class and model answer alike: mean; the start -/
theorem am_CtL.post {E : am_E} {as : List Value} {μ : am_M} {post post' : Option Value → am_M → Prop} (h : am_CtL E as μ post) (hp : ∀ v μ', post v μ' → post' v μ') : am_CtL E as μ post' := by
  intro p e ha hc hk s m args below hf hfit hP hT
  obtain ⟨t, o, h1, h2, h3, ⟨⟨v, μ', e1, e2, e3⟩, hF⟩, hL⟩ := h p e ha hc hk s m args below hf hfit hP hT
  exact ⟨t, o, h1, h2, h3, ⟨⟨v, μ', e1, hp v μ' e2, e3⟩, hF⟩, hL⟩
theorem Qq.sL (q : Nat) (μ : am_M) (a k : Nat) (v : Int64) : Qq q μ (mm_sL μ a k v) := ⟨Fr.sL _ _ _ _, fun _ _ _ _ => rfl, fun _ _ _ => rfl⟩
theorem jo_mean {E : am_E} {μ : am_M} (hJ : J μ) (a n side : Int32) : am_CtL E [.ref 1, .int a, .int n, .int side, .ref 56] μ (fun v μ' => ∃ k, v = some (.int k) ∧ Bs μ' ∧ am_Ct E yX7_mean cX7_mean 8 (some .long) rmX7_mean [.ref 46, .int a, .int n, .int side] μ' (fun v' μ'' => ∃ w, v' = some (.long w) ∧ Bs μ'' ∧ mm_I μ'' 46 0 = k ∧ (k = 0 → mm_L μ'' 56 0 = w) ∧ J μ'')) := by
  have h56 : ∀ {ν : am_M}, Bs ν → mm_S ν 56 = (9, 1) := fun {ν} h => by rw [h.1 56 (by decide) (by decide)]; rfl
  obtain ⟨S, N, hT, ⟨h1, h2⟩ | ⟨q, L, En, Rd, rn, t, up, dn, least, od, dF, hR⟩⟩ := hJ
  · refine (ct_L_mean hT.b a n side (ct_X6_meanN hT.b h1 a n side) ?_).post ?_
    · rintro _ _ ⟨rfl, rfl⟩
      exact ⟨⟨_, rfl⟩, h56 hT.b⟩
    · rintro _ _ (⟨h, _⟩ | ⟨ν, w, ⟨hw, rfl⟩, rfl, rfl⟩)
      · exact h.elim
      · simp only [Option.some.injEq, Value.long.injEq] at hw
        subst hw
        have hb := hT.b.fr (Fr.sL μ 56 0 (-9223372036854775808))
        refine ⟨_, rfl, hb, (ct_X7_meanN hb h2 a n side).post ?_⟩
        rintro _ _ ⟨rfl, rfl⟩
        exact ⟨_, rfl, hb.fr (Fr.sI _ _ _ _), mI_same _ _ _ _, fun _ => by rw [mL_sI, mL_same], J.no hT h1 h2 ((Qq.sL _ _ _ _ _).tr (Qq.th _ _ _))⟩
  · have hE := hR.a.e
    have hL := hR.rc.l
    have hq := hR.rc.qq
    have hS := hT.t.s
    have hN := hT.t.n
    have htn := hR.tn
    have hov := hR.ov
    obtain ⟨cn, hcd⟩ : ∃ cn : Nat → Nat → Nat, cn = fun s r => (cst μ s (od r)).toNatClampNeg := ⟨_, rfl⟩
    have hcn : ∀ s r, s < En → r < ruF dF Rd t s → cst μ s (od r) = nI (cn s r) ∧ cn s r ≤ 2000000 := fun s r hs hr => by
      have h3 := hR.rul2 hs
      have h4 := (hR.or r (by omega)).2.2
      obtain ⟨x, hx, he⟩ := cs_nat (hT.rng s (od r) (by omega) (by omega)) (hR.tk s r hs hr).2
      rw [hcd]
      show mm_I μ (4 + s) (od r) = nI (mm_I μ (4 + s) (od r)).toNatClampNeg ∧ (mm_I μ (4 + s) (od r)).toNatClampNeg ≤ 2000000
      rw [he, nI_clamp (by omega)]
      exact ⟨rfl, hx⟩
    have hsm : ∀ s k, s < En → k ≤ ruF dF Rd t s → sm64 (tkn μ q s) k = lN (smN (cn s) 0 k) ∧ smN (cn s) 0 k < 2 ^ 31 := fun s k hs hk => by
      have h3 := hR.rul2 hs
      refine ⟨sm64_N (fun r hr => ⟨(hR.tk s r hs (by omega)).1.trans (hcn s r hs (by omega)).1, (hcn s r hs (by omega)).2⟩), ?_⟩
      have := smN_le (c := cn s) (n := k) (fun r hr => (hcn s r hs (by omega)).2)
      omega
    have hru : ∀ s, s < En → (if mm_I μ (q + 15) s = 0 then nI (Rd + (if mm_I μ (q + 1) 14 = 0 ∧ nI s < nI t then 1 else 0)) else mm_I μ (q + 15) s) = nI (ruF dF Rd t s) ∧ ruF dF Rd t s ≤ L := fun s hs => by
      refine ⟨?_, hR.rul2 hs⟩
      unfold ruF
      by_cases h0 : dF s = 0
      · rw [if_pos ((hR.z0 hR.r24 (by omega)).mpr h0), if_pos h0]
        by_cases h3 : s < t
        · rw [if_pos h3]
          by_cases h4 : mm_I μ (q + 1) 14 = 0
          · rw [if_pos ⟨h4, nI_lt h3 (by omega)⟩]
          · exact absurd h0 (hov.2.2 h4 s h3)
        · rw [if_neg h3, if_neg (fun z => h3 ((nI_ltI (by omega) (by omega)).mp z.2))]
          rfl
      · rw [if_neg (fun z => h0 ((hR.z0 hR.r24 (by omega)).mp z)), if_neg h0]
        exact (hR.dr s (by omega)).1
    have hcc : ((0 ≤ a ∧ a < nI En) ∧ (0 ≤ side ∧ side ≤ 1) ∧ (0 ≤ n ∧ n ≤ mm_I μ (q + 16) a.toNatClampNeg)) ↔ ((0 ≤ a ∧ a < nI En) ∧ (0 ≤ side ∧ side ≤ 1) ∧ (0 ≤ n ∧ n ≤ nI (ruF dF Rd t a.toNatClampNeg))) := by
      by_cases h3 : 0 ≤ a ∧ a < nI En
      · obtain ⟨j, hj, rfl⟩ := nI_rg2 h3 (by omega)
        rw [nI_clamp (by omega), hR.ran j hj]
      · exact ⟨fun h => absurd h.1 h3, fun h => absurd h.1 h3⟩
    have gen : ∀ ν : am_M, Bs ν → (∀ a k, a < 57 → mm_I ν a k = mm_I μ a k) → am_Ct E yX7_mean cX7_mean 8 (some .long) rmX7_mean [.ref 46, .int a, .int n, .int side] ν (fun v μ' => (¬ ((0 ≤ a ∧ a < nI En) ∧ (0 ≤ side ∧ side ≤ 1) ∧ (0 ≤ n ∧ n ≤ nI (ruF dF Rd t a.toNatClampNeg))) ∧ v = some (.long (-9223372036854775808)) ∧ μ' = mm_sI ν 46 0 0) ∨ (((0 ≤ a ∧ a < nI En) ∧ (0 ≤ side ∧ side ≤ 1) ∧ (0 ≤ n ∧ n ≤ nI (ruF dF Rd t a.toNatClampNeg))) ∧ n = 0 ∧ (∃ w, v = some (.long w)) ∧ μ' = mm_sI (mm_sI ν 46 0 0) 46 0 1) ∨ (((0 ≤ a ∧ a < nI En) ∧ (0 ≤ side ∧ side ≤ 1) ∧ (0 ≤ n ∧ n ≤ nI (ruF dF Rd t a.toNatClampNeg))) ∧ ¬ n = 0 ∧ ∃ a' n' : Nat, a = nI a' ∧ n = nI n' ∧ a' < En ∧ n' ≤ ruF dF Rd t a' ∧ 0 < n' ∧ μ' = mm_sI ν 46 0 0 ∧ v = some (.long (lN ((if side = 0 then smN (cn a') 0 n' else n') / Nat.gcd (smN (cn a') 0 n') n'))))) := fun ν hb e =>
      ct_X7_mean hb ((hR.mo hT).keep (e _ _ (by decide)) (e _ _ (by decide)) (e _ _ (by decide)) (fun k => e _ _ (by decide)) (fun k => e _ _ (by decide))) (hT.m.keep (e _ _ (by decide)) (e _ _ (by decide)) (fun k => e _ _ (by decide))) ((e _ _ (by decide)).trans hR.k6) hR.k0 ((e _ _ (by decide)).trans hov.1) ((e _ _ (by decide)).trans htn.2.1) a n side hru hcn
    refine (ct_L_mean hT.b a n side (ct_X6_mean hT.b hR.rc hR.a hR.cu a n side (rn := ruF dF Rd t) (fun s hs => ⟨hR.ran s hs, by have := hR.rul2 hs; omega⟩) (fun s k hs hk => ⟨_, (hsm s k hs hk).2, (hsm s k hs hk).1⟩)) ?_).post ?_
    · rintro _ _ (⟨_, rfl, rfl⟩ | ⟨_, _, _, _, _, _, _, _, _, _, _, _, rfl, rfl⟩)
      · exact ⟨⟨_, rfl⟩, h56 hT.b⟩
      · exact ⟨⟨_, rfl⟩, h56 hT.b⟩
    · rintro _ _ (⟨⟨c, hn⟩, rfl, d, rfl⟩ | ⟨ν, w, hpo, rfl, rfl⟩)
      · have hJ' : J (mm_bp μ d) := J.kp (J.ra hT hR (Qq.rf _ _)) (Kp.bp μ d)
        have hb := hT.b.kp (Kp.bp μ d)
        refine ⟨_, rfl, hb, (gen _ hb (fun _ _ _ => rfl)).post ?_⟩
        rintro _ _ (⟨c2, _⟩ | ⟨c2, _, ⟨w, rfl⟩, rfl⟩ | ⟨_, c3, _⟩)
        · exact absurd (hcc.mp c) c2
        · exact ⟨_, rfl, (hb.fr (Fr.sI _ _ _ _)).fr (Fr.sI _ _ _ _), mI_same _ _ _ _, fun h => absurd h (by decide), hJ'.any (fun q _ => (Qq.th _ _ _).tr (Qq.th _ _ _))⟩
        · exact absurd hn c3
      · have hpo2 : μ = ν := by rcases hpo with ⟨_, _, h⟩ | ⟨_, _, _, _, _, _, _, _, _, _, _, _, _, h⟩ <;> exact h
        subst hpo2
        have hb := hT.b.fr (Fr.sL μ 56 0 w)
        have fin : ∀ {b : Int64}, b = w → ∃ w', some (Value.long b) = some (Value.long w') ∧ Bs (mm_sI (mm_sL μ 56 0 w) 46 0 0) ∧ mm_I (mm_sI (mm_sL μ 56 0 w) 46 0 0) 46 0 = 0 ∧ ((0 : Int32) = 0 → mm_L (mm_sI (mm_sL μ 56 0 w) 46 0 0) 56 0 = w') ∧ J (mm_sI (mm_sL μ 56 0 w) 46 0 0) := fun {b} hbw => ⟨_, rfl, hb.fr (Fr.sI _ _ _ _), mI_same _ _ _ _, fun _ => by rw [mL_sI, mL_same, hbw], J.ra hT hR ((Qq.sL _ _ _ _ _).tr (Qq.th _ _ _))⟩
        refine ⟨_, rfl, hb, (gen _ hb (fun _ _ _ => rfl)).post ?_⟩
        rintro _ _ (⟨c2, rfl, rfl⟩ | ⟨c2, hn, _, rfl⟩ | ⟨c2, c3, a', n', ea, en, ha, hn, hn0, rfl, rfl⟩)
        · rcases hpo with ⟨c, h, _⟩ | ⟨c, _⟩
          · simp only [Option.some.injEq, Value.long.injEq] at h
            exact fin h.symm
          · exact absurd (hcc.mp c) c2
        · rcases hpo with ⟨c, _⟩ | ⟨_, c3, _⟩
          · exact absurd (hcc.mpr c2) c
          · exact absurd hn c3
        · rcases hpo with ⟨c, _⟩ | ⟨c, c4, a2, n2, A, ea2, en2, ha2, hn2, hn02, hA, hAe, h, _⟩
          · exact absurd (hcc.mpr c2) c
          · have hr2 := hR.rul2 ha
            have hr3 := hR.rul2 ha2
            have z1 := (nI_eq (by omega) (by omega)).mp (ea.symm.trans ea2)
            have z2 := (nI_eq (by omega) (by omega)).mp (en.symm.trans en2)
            subst z1 z2
            simp only [Option.some.injEq, Value.long.injEq] at h
            have hs9 := hsm a' n' ha hn
            have hA2 : A = smN (cn a') 0 n' := (lN_eq hA hs9.2).mp (hAe.symm.trans hs9.1)
            subst hA2
            exact fin h.symm
theorem J.st {μ : am_M} (h : St0 μ) : J μ := by
  obtain ⟨h1, h2, h3, h4, h5, h6, h7, h8, h9, h10, h11⟩ := h
  refine ⟨0, 0, ⟨h1, ⟨h4, h5, by omega, by omega⟩, ⟨h8, h9, by omega, by omega, fun s i hs hi => ?_, fun s i hs hi => Or.inl (h7 s i hs hi)⟩, fun s i hs hi _ => h7 s i hs hi, fun s hs => ?_, fun f i _ hi => by omega, fun i hi => by omega⟩, Or.inl ⟨h3, h10⟩⟩
  · rw [h11]
    show (0 : Int32) = mm_I μ (4 + s) i + 1
    rw [h7 s i hs hi]
    rfl
  · rw [h6 s, cnt_congr (b' := fun _ => false) (fun j hj => by rw [h7 s j hs hj]; rfl)]
    rfl
