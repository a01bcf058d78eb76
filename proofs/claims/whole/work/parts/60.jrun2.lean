/-! class and model answer alike: run, at a round's end -/
theorem ins_ex {rk : Nat → Nat} {x : Nat} : ∀ {A : List Nat}, A.Pairwise (lexR rk) → ¬ x ∈ A → ∃ A' : List Nat, A'.Pairwise (lexR rk) ∧ (∀ s, s ∈ A' ↔ s = x ∨ s ∈ A) ∧ A'.length = A.length + 1
  | [], _, _ => ⟨[x], List.pairwise_singleton _ _, fun s => by simp, rfl⟩
  | a :: B, h, hx => by
    have h1 := List.pairwise_cons.mp h
    have hne : x ≠ a := fun z => hx (z ▸ List.mem_cons_self)
    by_cases c : lexR rk x a
    · refine ⟨x :: a :: B, List.pairwise_cons.mpr ⟨fun s hs => ?_, h⟩, fun s => List.mem_cons, rfl⟩
      rcases List.mem_cons.mp hs with z | z
      · rw [z]; exact c
      · exact c.tr (h1.1 s z)
    · have c2 : lexR rk a x := by unfold lexR at c ⊢; omega
      obtain ⟨B', h2, h3, h4⟩ := ins_ex h1.2 (fun z => hx (List.mem_cons_of_mem _ z))
      refine ⟨a :: B', List.pairwise_cons.mpr ⟨fun s hs => ?_, h2⟩, fun s => ?_, by simp only [List.length_cons, h4]⟩
      · rcases (h3 s).mp hs with z | z
        · rw [z]; exact c2
        · exact h1.1 s z
      · rw [List.mem_cons, h3 s, List.mem_cons]
        exact ⟨fun h => by rcases h with h | h | h; exact Or.inr (Or.inl h); exact Or.inl h; exact Or.inr (Or.inr h), fun h => by rcases h with h | h | h; exact Or.inr (Or.inl h); exact Or.inl h; exact Or.inr (Or.inr h)⟩
theorem srt_ex (rk : Nat → Nat) (p : Nat → Prop) [DecidablePred p] : ∀ n, ∃ A : List Nat, A.Pairwise (lexR rk) ∧ (∀ s, s ∈ A ↔ s < n ∧ p s) ∧ A.length ≤ n
  | 0 => ⟨[], List.Pairwise.nil, fun s => by simp, Nat.le_refl _⟩
  | n + 1 => by
    obtain ⟨A, h1, h2, h3⟩ := srt_ex rk p n
    by_cases c : p n
    · obtain ⟨A', g1, g2, g3⟩ := ins_ex (x := n) h1 (fun z => by have := ((h2 n).mp z).1; omega)
      refine ⟨A', g1, fun s => ?_, by omega⟩
      rw [g2 s, h2 s]
      constructor
      · rintro (rfl | h)
        · exact ⟨by omega, c⟩
        · exact ⟨by omega, h.2⟩
      · intro h
        by_cases z : s = n
        · exact Or.inl z
        · exact Or.inr ⟨by omega, h.2⟩
    · refine ⟨A, h1, fun s => ?_, by omega⟩
      rw [h2 s]
      constructor
      · intro h
        exact ⟨by omega, h.2⟩
      · intro h
        by_cases z : s = n
        · rw [z] at h
          exact absurd h.2 c
        · exact ⟨by omega, h.2⟩
theorem t0_ex {rk : Nat → Nat} {ou : Nat → Int32} {En t : Nat} (hE : En ≤ 12) (hrk : ∀ s, rk s < 2 ^ 31) (ht : t < En) (h0 : ou t = 0) : ∃ (T0 : List Nat) (ld : Nat), T0.Pairwise (fun x y => lexR rk y x) ∧ (∀ s, s ∈ T0 ↔ s < En ∧ ou s = 0 ∧ s ≠ ld) ∧ T0.length ≤ 11 ∧ am1 (fun s => decide (ou s = 0)) (fun x => nI (rk x)) En = some ld := by
  obtain ⟨A, hA, hm, hl⟩ := srt_ex rk (fun s => ou s = 0) En
  cases A with
  | nil => exact absurd ((hm t).mpr ⟨ht, h0⟩) (by simp)
  | cons ld B =>
    have hnd := lexR_nodup hA
    rw [List.nodup_cons] at hnd
    refine ⟨B.reverse, ld, List.pairwise_reverse.mpr (List.pairwise_cons.mp hA).2, fun s => ?_, by rw [List.length_reverse]; simp only [List.length_cons] at hl; omega, am_head hA (fun s => by rw [hm s]; simp) hrk⟩
    rw [List.mem_reverse]
    constructor
    · intro h
      have h2 := (hm s).mp (List.mem_cons_of_mem _ h)
      exact ⟨h2.1, h2.2, fun z => hnd.1 (z ▸ h)⟩
    · intro h
      have h2 := (hm s).mpr ⟨h.1, h.2.1⟩
      rcases List.mem_cons.mp h2 with z | z
      · exact absurd z h.2.2
      · exact z
section RUN2
variable {μ ρ : am_M} {S N q L En Rd rn t up dn least : Nat} {od dF : Nat → Nat} {c : Int32}
theorem JR.fin {μ' μ'' : am_M} {dr' : Nat → Int32} {rem' : Nat} (hT : JT μ S N) (hR : JR μ S N q L En Rd rn t up dn least od dF) (hρ : ρ = rnM μ q t Rd rn En c) (hRL : Rd < L) (hc : mm_I μ (4 + t) (od Rd) = c) (hct : ¬ c = -1) (hf : frst (fun s => decide (mm_I μ (q + 15) s = 0)) En (t + 1) = none)
    (hC : rem' = cnt (fun s => decide (dr' s = 0)) En) (hD : ∀ s, dr' s = mm_I μ (q + 15) s ∨ (mm_I μ (q + 15) s = 0 ∧ s < En ∧ dr' s = nI (Rd + 1))) (hX : ∃ s, s < En ∧ dr' s = 0)
    (k1 : Sm (Sdw q) ρ μ') (k2 : mm_I μ' (q + 15) = dr') (k3 : mm_I μ' (q + 1) 10 = nI rem') (k4 : mm_I μ' (q + 1) 12 = nI (Rd + 1)) (k5 : mm_I μ' (q + 1) 11 = enO (-1) (frst (fun s => decide (dr' s = 0)) En 0)) (k6 : mm_I μ' (q + 1) 14 = woF (nI rem') (mm_I ρ q 4) (nI (Rd + 1)) (nI L) (mm_I ρ q 5) (mm_I ρ (q + 1) 13)) (k7 : ∀ k, k ≠ 10 → k ≠ 11 → k ≠ 12 → k ≠ 14 → mm_I μ' (q + 1) k = mm_I ρ (q + 1) k)
    (m1 : Fr μ' μ'') (m2 : ∀ x y, ¬ Sdm x → x ≠ 46 → mm_I μ'' x y = mm_I μ' x y) (m4 : ∀ s, s < 12 → mm_I μ'' 51 s = dr' s) (m5 : ∀ k, k ≠ 0 → k ≠ 15 → k ≠ 16 → k ≠ 17 → k ≠ 18 → mm_I μ'' 46 k = mm_I μ' 46 k) (m15 : mm_I μ'' 46 15 = nI (Rd + 1)) (m16 : mm_I μ'' 46 16 = nI (rn + 1)) (m17 : mm_I μ'' 46 17 = ovF (nI (cnt (fun s => decide (dr' s = 0)) En)) (nI least) (nI (Rd + 1)) (nI L) (mm_I μ q 5) (nI (rn + 1))) (m18 : mm_I μ'' 46 18 = nI (fsN (fun s => decide (dr' s = 0)) En 0)) : J μ'' := by
  have hE := hR.a.e
  have hq := hR.rc.qq
  have hS := hT.t.s
  have hL := hR.rc.l
  have htn := hR.tn
  have h24 := hR.r24
  have hz := fun s (hs : s < 12) => hR.z0 h24 hs
  have hru := hR.ru
  obtain ⟨r1, r2, r3, r4, r5, r6⟩ := rn_f (by omega) hρ
  have htk := fun s r => hR.tk2 hρ hc hct (s := s) (r := r)
  have hle : ∀ s, s < En → dF s = 0 → s ≤ t := fun s hs h0 => by
    rcases Nat.lt_or_ge t s with z | z
    · have := frst_none hf s (by omega) hs
      rw [(hz s (by omega)).mpr h0] at this
      exact absurd this (by decide)
    · exact z
  obtain ⟨x0, hx1, hx2⟩ := hX
  obtain ⟨t0, hft⟩ := fr_ex (b := fun s => decide (dr' s = 0)) hx1 (decide_eq_true hx2)
  obtain ⟨-, g2, g3, g4⟩ := frst_some hft
  have g3 : dr' t0 = 0 := of_decide_eq_true g3
  have g4 : ∀ j, j < t0 → ¬ dr' j = 0 := fun j hj h => by
    have := g4 j (Nat.zero_le _) hj
    rw [h] at this
    exact absurd this (by decide)
  have hn1 : ¬ nI (Rd + 1) = 0 := nI_ne0 (by omega) (by omega)
  obtain ⟨dG, hdG⟩ : ∃ dG : Nat → Nat, dG = fun s => if dF s = 0 then (if dr' s = 0 then 0 else Rd + 1) else dF s := ⟨_, rfl⟩
  have hdv : ∀ s, s < 12 → dr' s = nI (dG s) ∧ dG s ≤ Rd + 1 := fun s hs => by
    have hds := hR.dr s hs
    rw [hdG]
    show dr' s = nI (if dF s = 0 then (if dr' s = 0 then 0 else Rd + 1) else dF s) ∧ (if dF s = 0 then (if dr' s = 0 then 0 else Rd + 1) else dF s) ≤ Rd + 1
    by_cases h0 : dF s = 0
    · rw [if_pos h0]
      by_cases h1 : dr' s = 0
      · rw [if_pos h1]
        exact ⟨h1, by omega⟩
      · rw [if_neg h1]
        rcases hD s with z | z
        · exact absurd (z.trans ((hz s hs).mpr h0)) h1
        · exact ⟨z.2.2, Nat.le_refl _⟩
    · rw [if_neg h0]
      rcases hD s with z | z
      · exact ⟨z.trans hds.1, by omega⟩
      · exact absurd ((hz s hs).mp z.1) h0
  have hdz : ∀ s, s < 12 → (dG s = 0 ↔ dr' s = 0) := fun s hs => by
    have h1 := hdv s hs
    rw [h1.1]
    exact (nI_eq (b := 0) (by omega) (by decide)).symm
  have hdd : ∀ s, ¬ dF s = 0 → dG s = dF s := fun s h => by
    rw [hdG]
    show (if dF s = 0 then (if dr' s = 0 then 0 else Rd + 1) else dF s) = dF s
    rw [if_neg h]
  have hda : ∀ s, dF s = 0 → dG s = 0 ∨ dG s = Rd + 1 := fun s h => by
    rw [hdG]
    show (if dF s = 0 then (if dr' s = 0 then 0 else Rd + 1) else dF s) = 0 ∨ (if dF s = 0 then (if dr' s = 0 then 0 else Rd + 1) else dF s) = Rd + 1
    rw [if_pos h]
    by_cases h1 : dr' s = 0
    · rw [if_pos h1]; exact Or.inl rfl
    · rw [if_neg h1]; exact Or.inr rfl
  have hrG : ∀ s, s < En → ruF dG (Rd + 1) t0 s = if dF s = 0 then Rd + 1 else dF s := fun s hs => by
    unfold ruF
    by_cases h0 : dF s = 0
    · rw [if_pos h0]
      rcases hda s h0 with z | z
      · rw [if_pos z, if_neg (fun h => g4 s h ((hdz s (by omega)).mp z))]
      · rw [if_neg (by omega), z]
    · rw [if_neg h0, hdd s h0, if_neg h0]
  have hFm : Fr μ μ'' := (r1.tr k1.1).tr m1
  have e : ∀ a k, (a < 21 ∨ (47 ≤ a ∧ a ≤ 50) ∨ a = q ∨ (q + 2 ≤ a ∧ a ≤ q + 14) ∨ a = q + 16 ∨ a = q + 19) → mm_I μ'' a k = mm_I ρ a k := fun a k ha => (m2 a k (by unfold Sdm; omega) (by omega)).trans (k1.2.1 a k (by unfold Sdw Sod; omega))
  have e2 : ∀ a k, (a < 21 ∨ (47 ≤ a ∧ a ≤ 50) ∨ a = q ∨ a = q + 19) → mm_I μ'' a k = mm_I μ a k := fun a k ha => (e a k (by omega)).trans (r2 a k (by omega) (by omega) (by omega))
  have e46 : ∀ k, k ≠ 0 → k ≠ 15 → k ≠ 16 → k ≠ 17 → k ≠ 18 → mm_I μ'' 46 k = mm_I μ 46 k := fun k h1 h2 h3 h4 h5 => (m5 k h1 h2 h3 h4 h5).trans ((k1.2.1 46 k (by unfold Sdw Sod; omega)).trans (r2 46 k (by omega) (by omega) (by omega)))
  have eq1 : ∀ k, mm_I μ'' (q + 1) k = mm_I μ' (q + 1) k := fun k => m2 _ _ (by unfold Sdm; omega) (by omega)
  have eq1b : ∀ k, k ≠ 10 → k ≠ 11 → k ≠ 12 → k ≠ 14 → k ≠ 13 → mm_I μ'' (q + 1) k = mm_I μ (q + 1) k := fun k h1 h2 h3 h4 h5 => (eq1 k).trans ((k7 k h1 h2 h3 h4).trans (r2 _ _ (by omega) (by omega) (by omega)))
  have e15 : mm_I μ'' (q + 15) = dr' := by rw [← k2]; exact funext fun s => m2 _ _ (by unfold Sdm; omega) (by omega)
  have hT2 : JT μ'' S N := hT.of (hT.b.fr hFm) (fun a k ha => e2 a k (by omega)) (e46 _ (by decide) (by decide) (by decide) (by decide) (by decide)) (e46 _ (by decide) (by decide) (by decide) (by decide) (by decide))
  have hcp : 1 ≤ cnt (fun s => decide (dr' s = 0)) En := by
    have := cnt_lt (b := fun s => decide (dr' s = 0)) (decide_eq_true g3) g2
    omega
  have hcE := cnt_le (fun s => decide (dr' s = 0)) En
  have hov : mm_I μ'' (q + 1) 14 = woF (nI (cnt (fun s => decide (dr' s = 0)) En)) (nI least) (nI (Rd + 1)) (nI L) (mm_I μ q 5) (nI (rn + 1)) := by
    rw [eq1, k6, r5, hC, r2 q 4 (by omega) (by omega) (by omega), r2 q 5 (by omega) (by omega) (by omega), hru.2.2.1]
  refine ⟨S, N, hT2, Or.inr ⟨q, L, En, Rd + 1, rn + 1, t0, up, dn, least, od, dG, ?_⟩⟩
  obtain ⟨h1, h2, h3, h4, h5, h6, h7, h8, h9, h10, h11, h12, h13, h14, h15, h16, h17, h18, h19⟩ := hR
  refine ⟨by rw [hFm.2.1]; exact h1, h2.fr hFm, by rw [hFm.2.2]; exact h3, ⟨(eq1b 4 (by decide) (by decide) (by decide) (by decide) (by decide)).trans h4.1, (eq1 12).trans k4, hE, by omega⟩, ⟨h5.1, h5.2.1, by omega⟩, by rw [e2 q 0 (by omega)]; exact h6, by rw [e2 q 2 (by omega), e2 q 3 (by omega), e2 q 4 (by omega)]; exact h7, fun k hk => by rw [e46 _ (by omega) (by omega) (by omega) (by omega) (by omega), e2 q k (by omega)]; exact h8 k hk, ⟨(e46 _ (by decide) (by decide) (by decide) (by decide) (by decide)).trans h9.1, (e46 _ (by decide) (by decide) (by decide) (by decide) (by decide)).trans h9.2.1, m15⟩, fun i hi => by rw [e2 (q + 19) i (by omega), e2 50 i (by omega)]; exact h10 i hi, fun s hs => by rw [e15]; exact ⟨(hdv s hs).1, m4 s hs, (hdv s hs).2⟩, ⟨(eq1 13).trans ((k7 13 (by decide) (by decide) (by decide) (by decide)).trans r5), m16, by omega⟩, ?_, ?_, fun _ s hs h0 => g4 s hs ((hdz s (by omega)).mp h0), ⟨?_, ?_, g2, (hdz t0 (by omega)).mpr g3⟩, ?_, fun s hs => ?_, fun s r hs hr => ?_⟩
  · rw [hov, m17]
    exact (wo_ov hcp (by omega) (by omega) hL).symm
  · intro h
    rw [hov] at h
    have h20 := wo_0 h
    rcases Nat.lt_or_ge (Rd + 1) L with z | z
    · exact z
    · exact absurd (nI_le z (by omega)) h20
  · rw [eq1, k5, hft]
    rfl
  · rw [m18, fs_some hft]
  · rw [eq1, k3, hC]
    refine congrArg nI (cnt_congr (fun s hs => ?_))
    simp only [lfC]
    rw [e15]
  · rw [hrG s hs, e (q + 16) s (by omega)]
    by_cases hst : s = t
    · subst hst
      rw [r4, if_pos htn.2.2.2]
    · rw [r2 _ _ (by omega) (by omega) (by omega), h18 s hs]
      unfold ruF
      by_cases h0 : dF s = 0
      · have := hle s hs h0
        rw [if_pos h0, if_pos h0, if_pos (by omega)]
      · rw [if_neg h0, if_neg h0]
  · rw [hrG s hs] at hr
    rw [e (q + 3 + s) r (by omega), e2 (4 + s) (od r) (by omega)]
    by_cases h0 : dF s = 0
    · rw [if_pos h0] at hr
      exact htk s r hs h0 (hle s hs h0) hr
    · rw [if_neg h0] at hr
      have hst : s ≠ t := fun z => h0 (z ▸ htn.2.2.2)
      rw [r2 _ _ (by omega) (by omega) (by omega)]
      refine h19 s r hs ?_
      unfold ruF
      rw [if_neg h0]
      exact hr
end RUN2
theorem jo_run {E : am_E} {μ : am_M} (hJ : J μ) : am_Ct E yX6_run cX6_run 1 (some .int) rmX6_run [.ref 1] μ (fun v μ' => ∃ a, v = some (.int a) ∧ Bs μ' ∧ am_Ct E yX7_run cX7_run 1 (some .int) rmX7_run [.ref 46] μ' (fun v' μ'' => v' = some (.int a) ∧ J μ'')) := by
  obtain ⟨S, N, hT, ⟨h1, h2⟩ | ⟨q, L, En, Rd, rn, t, up, dn, least, od, dF, hR⟩⟩ := hJ
  · refine (ct_X6_runN0 hT.b h1).post ?_
    rintro _ _ ⟨rfl, rfl⟩
    refine ⟨_, rfl, hT.b, (ct_X7_runN0 hT.b h2).post ?_⟩
    rintro _ _ ⟨rfl, rfl⟩
    exact ⟨rfl, J.no hT h1 h2 (Qq.th _ _ _)⟩
  · have hE := hR.a.e
    have hL := hR.rc.l
    have hq := hR.rc.qq
    have hS := hT.t.s
    have hN := hT.t.n
    have htn := hR.tn
    have hen := hR.en
    have hco : mm_I μ (q + 1) 14 = 0 → Rd < L ∧ od Rd < N ∧ co μ S N (mm_I μ (q + 1) 11) (if 0 ≤ nI Rd ∧ nI Rd < nI L then mm_I μ (q + 19) (nI Rd).toNatClampNeg else -1) = mm_I μ (4 + t) (od Rd) := fun hov => by
      have h3 := hR.ov.2.1 hov
      have h4 := hR.or Rd h3
      refine ⟨h3, h4.2.2, ?_⟩
      rw [if_pos ⟨nI_pos' (by omega), nI_lt h3 (by omega)⟩, nI_clamp (by omega), h4.1, htn.1]
      exact co_in (by omega) h4.2.2 hS hN
    by_cases hgo : mm_I μ (q + 1) 14 = 0 ∧ ¬ mm_I μ (4 + t) (od Rd) = -1
    · obtain ⟨hov, hct⟩ := hgo
      obtain ⟨hRL, hoN, -⟩ := hco hov
      have hcE := cnt_le (lfC μ q) En
      have hrn := hR.rs
      have hru := hR.ru
      have h24 := hR.r24
      have ht0 : mm_I μ (q + 15) t = 0 := (hR.z0 h24 (by omega)).mpr htn.2.2.2
      refine (ct_X6_run hT.b hR.rc hR.a hR.cu hT.t hR.rem (by omega) hru.2.2.1 hru.2.2.2.2.2.2 hov htn.1 htn.2.2.1 hen.2.1 ht0 hRL (hR.or Rd hRL).1 hoN rfl hct hrn.1 (by omega) (fun s hs h0 => by
        rw [hR.ran s hs]
        unfold ruF
        rw [if_pos ((hR.z0 h24 (by omega)).mp h0)])).post ?_
      rintro _ μ' ⟨rfl, hpo⟩
      obtain ⟨ρ, hρ⟩ : ∃ z, z = rnM μ q t Rd rn En (mm_I μ (4 + t) (od Rd)) := ⟨_, rfl⟩
      rw [← hρ] at hpo
      obtain ⟨r1, r2, r3, r4, r5, r6⟩ := rn_f (by omega) hρ
      have gen : ∀ (ξ : am_M), Fr μ ξ → (∀ a k, (46 ≤ a ∧ a ≤ 51) → mm_I ξ a k = mm_I μ a k) → ∀ (T0 : List Nat) (ld : Nat), (mm_I μ q 1 ≤ nI (Rd + 1) → T0.Pairwise (fun x y => lexR (fun x => rkN (fun s => decide (mm_I μ (q + 15) s = 0)) (fun s r => cst μ s (od r)) (Rd + 1) x En) y x) ∧ (∀ s, s ∈ T0 ↔ s < En ∧ mm_I μ (q + 15) s = 0 ∧ s ≠ ld) ∧ T0.length ≤ 11 ∧ am1 (fun s => decide (mm_I μ (q + 15) s = 0)) (fun x => nI (rkN (fun s => decide (mm_I μ (q + 15) s = 0)) (fun s r => cst μ s (od r)) (Rd + 1) x En)) En = some ld) → am_Ct E yX7_run cX7_run 1 (some .int) rmX7_run [.ref 46] ξ (fun v μ'' => v = some (.int (nI (rn + 1))) ∧ (((fsN (fun s => decide (mm_I μ (q + 15) s = 0)) En (t + 1)) < En ∧ μ'' = mm_sI (mm_sI (mm_sI ξ 46 0 0) 46 16 (nI (rn + 1))) 46 18 (nI (fsN (fun s => decide (mm_I μ (q + 15) s = 0)) En (t + 1)))) ∨ ((fsN (fun s => decide (mm_I μ (q + 15) s = 0)) En (t + 1)) = En ∧ EndM ξ μ'' (mm_I μ (q + 15)) (cst μ) od (mm_I μ q 0) (mm_I μ q 1) (mm_I μ q 5) En Rd L rn least up dn (cnt (lfC μ q) En) ld T0))) := fun ξ hF e T0 ld hTT =>
        ct_X7_run (hT.b.fr hF) ((hR.mo hT).keep (e _ _ (by omega)) (e _ _ (by omega)) (e _ _ (by omega)) (fun k => e _ _ (by omega)) (fun k => e _ _ (by omega))) (hT.m.keep (e _ _ (by omega)) (e _ _ (by omega)) (fun k => e _ _ (by omega))) ((e _ _ (by omega)).trans hR.k6) hR.k0 hR.kd ((e _ _ (by omega)).trans (hR.ov.1.trans hov)) ((e _ _ (by omega)).trans htn.2.1) htn.2.2.1 hRL hct ((e _ _ (by omega)).trans hrn.2.1) ((e _ _ (by omega)).trans (hR.k 1 (by decide))) ((e _ _ (by omega)).trans ((hR.k 2 (by decide)).trans hru.1)) ((e _ _ (by omega)).trans ((hR.k 3 (by decide)).trans hru.2.1)) ((e _ _ (by omega)).trans ((hR.k 4 (by decide)).trans hru.2.2.1)) ((e _ _ (by omega)).trans (hR.k 5 (by decide))) hru.2.2.2.2.2.2 hru.2.2.2.1 hru.2.2.2.2.1 rfl hTT
      rcases hpo with ⟨hf, rfl⟩ | ⟨hf, dr', rem', hD, hrr, k1, k2, k3, k4, k5, k6, k7⟩
      · obtain ⟨t', hf⟩ : ∃ t', frst (fun s => decide (mm_I μ (q + 15) s = 0)) En (t + 1) = some t' := by
          rcases h : frst (fun s => decide (mm_I μ (q + 15) s = 0)) En (t + 1) with _ | y
          · exact absurd h hf
          · exact ⟨y, rfl⟩
        have hgo : ∃ (T0 : List Nat) (ld : Nat), mm_I μ q 1 ≤ nI (Rd + 1) → T0.Pairwise (fun x y => lexR (fun x => rkN (fun s => decide (mm_I μ (q + 15) s = 0)) (fun s r => cst μ s (od r)) (Rd + 1) x En) y x) ∧ (∀ s, s ∈ T0 ↔ s < En ∧ mm_I μ (q + 15) s = 0 ∧ s ≠ ld) ∧ T0.length ≤ 11 ∧ am1 (fun s => decide (mm_I μ (q + 15) s = 0)) (fun x => nI (rkN (fun s => decide (mm_I μ (q + 15) s = 0)) (fun s r => cst μ s (od r)) (Rd + 1) x En)) En = some ld := by
          obtain ⟨T0, ld, h1, h2, h3, h4⟩ := t0_ex (rk := fun x => rkN (fun s => decide (mm_I μ (q + 15) s = 0)) (fun s r => cst μ s (od r)) (Rd + 1) x En) (ou := mm_I μ (q + 15)) hE (fun s => Nat.lt_of_le_of_lt (rkN_top _ _ (by omega) hE) (by decide)) htn.2.2.1 ht0
          exact ⟨T0, ld, fun _ => ⟨h1, h2, h3, h4⟩⟩
        obtain ⟨T0, ld, hTT⟩ := hgo
        refine ⟨_, rfl, hT.b.fr r1, (gen μ' r1 (fun a k ha => r2 a k (by omega) (by omega) (by omega)) T0 ld hTT).post ?_⟩
        rintro _ μ'' ⟨rfl, ⟨h1, h2⟩ | ⟨h1, _⟩⟩
        · rw [fs_some hf] at h2
          exact ⟨rfl, JR.step hT hR hρ hov rfl hct hf h2⟩
        · rw [fs_some hf] at h1
          have := (frst_some hf).2.1
          omega
      · obtain ⟨T0, ld, hTT, hB, hC, hDD, hX⟩ := hR.drp hT hρ hRL rfl hct hf hD
        have hFr := r1.tr k1.1
        refine ⟨_, rfl, hT.b.fr hFr, (gen μ' hFr (fun a k ha => (k1.2.1 a k (by unfold Sdw Sod; omega)).trans (r2 a k (by omega) (by omega) (by omega))) T0 ld hTT).post ?_⟩
        rintro _ μ'' ⟨rfl, ⟨h1, h2⟩ | ⟨h1, drM, hdM, m1, m2, m3, m4, m5, m15, m16, m17, m18⟩⟩
        · rw [fs_none hf] at h1
          omega
        · have := hB drM hdM
          subst this
          exact ⟨rfl, JR.fin hT hR hρ hRL rfl hct hf hC hDD hX k1 k2 k3 k4 k5 k6 k7 m1 m2 m4 m5 m15 m16 m17 m18⟩
    · have hno : ¬ mm_I μ (q + 1) 14 = 0 ∨ mm_I μ (4 + t) (od Rd) = -1 := by
        by_cases h : mm_I μ (q + 1) 14 = 0
        · exact Or.inr (Classical.byContradiction (fun z => hgo ⟨h, z⟩))
        · exact Or.inl h
      have hno6 : ¬ mm_I μ (q + 1) 14 = 0 ∨ co μ S N (mm_I μ (q + 1) 11) (if 0 ≤ nI Rd ∧ nI Rd < nI L then mm_I μ (q + 19) (nI Rd).toNatClampNeg else -1) = -1 := by
        by_cases h : mm_I μ (q + 1) 14 = 0
        · exact Or.inr ((hco h).2.2.trans (hno.resolve_left (fun z => z h)))
        · exact Or.inl h
      refine (ct_X6_runN hT.b hR.rc hR.a hR.cu hT.t hno6).post ?_
      rintro _ _ ⟨rfl, rfl⟩
      refine ⟨_, rfl, hT.b, (ct_X7_runN hT.b (hR.mo hT) hT.m hR.k6 hR.k0 hR.ov.1 htn.2.1 (fun h => ⟨hR.ov.2.1 h, by omega⟩) hno).post ?_⟩
      rintro _ _ ⟨rfl, rfl⟩
      exact ⟨rfl, J.ra hT hR (Qq.th _ _ _)⟩
