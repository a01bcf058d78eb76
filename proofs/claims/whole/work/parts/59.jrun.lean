/-! class and model answer alike: run -/
theorem dropL_val {bad : Nat → Bool} {least : Nat} {rd : Int32} : ∀ {l : List Nat} {st : (Nat → Int32) × Nat} (s : Nat), (dropL bad least rd l st).1 s = st.1 s ∨ (s ∈ l ∧ (dropL bad least rd l st).1 s = rd)
  | [], st, s => Or.inl rfl
  | x :: l, st, s => by
    simp only [dropL]
    by_cases c : least < st.2 ∧ bad x = true
    · rw [if_pos c]
      rcases dropL_val (bad := bad) (least := least) (rd := rd) (l := l) (st := (upd st.1 x rd, st.2 - 1)) s with z | z
      · by_cases hx : s = x
        · refine Or.inr ⟨by rw [hx]; exact List.mem_cons_self, ?_⟩
          rw [z, hx]
          simp [upd]
        · refine Or.inl ?_
          rw [z]
          simp [upd, hx]
      · exact Or.inr ⟨List.mem_cons_of_mem _ z.1, z.2⟩
    · rw [if_neg c]
      rcases dropL_val (bad := bad) (least := least) (rd := rd) (l := l) (st := st) s with z | z
      · exact Or.inl z
      · exact Or.inr ⟨List.mem_cons_of_mem _ z.1, z.2⟩
theorem cnt_unset {b b' : Nat → Bool} {j n : Nat} (hj : j < n) (h0 : b j = true) (h1 : ¬ b' j = true) (he : ∀ i, i ≠ j → b' i = b i) : cnt b' n = cnt b n - 1 := by
  have := cnt_set (b := b') (b' := b) (j := j) h1 h0 (fun i hi => (he i hi).symm) n
  rw [if_pos hj] at this
  omega
theorem dropL_cnt {bad : Nat → Bool} {least En : Nat} {rd : Int32} (hrd : ¬ rd = 0) : ∀ {l : List Nat} {st : (Nat → Int32) × Nat}, l.Nodup → (∀ s ∈ l, s < En ∧ st.1 s = 0) → st.2 = cnt (fun s => decide (st.1 s = 0)) En → (dropL bad least rd l st).2 = cnt (fun s => decide ((dropL bad least rd l st).1 s = 0)) En
  | [], st, _, _, h => h
  | x :: l, st, hn, hl, h => by
    rw [List.nodup_cons] at hn
    by_cases c : least < st.2 ∧ bad x = true
    · have e : dropL bad least rd (x :: l) st = dropL bad least rd l (upd st.1 x rd, st.2 - 1) := by
        simp only [dropL]
        rw [if_pos c]
      rw [e]
      have hx := hl x List.mem_cons_self
      refine dropL_cnt hrd hn.2 (fun s hs => ?_) ?_
      · have h1 := hl s (List.mem_cons_of_mem _ hs)
        refine ⟨h1.1, ?_⟩
        show upd st.1 x rd s = 0
        unfold upd
        rw [if_neg (fun z : s = x => hn.1 (z ▸ hs))]
        exact h1.2
      · show st.2 - 1 = cnt (fun s => decide (upd st.1 x rd s = 0)) En
        rw [h, cnt_unset (b := fun s => decide (st.1 s = 0)) (b' := fun s => decide (upd st.1 x rd s = 0)) (j := x) hx.1 (by simp [hx.2]) (by simp [upd, hrd]) (fun i hi => by simp [upd, hi])]
    · have e : dropL bad least rd (x :: l) st = dropL bad least rd l st := by
        simp only [dropL]
        rw [if_neg c]
      rw [e]
      exact dropL_cnt hrd hn.2 (fun s hs => hl s (List.mem_cons_of_mem _ hs)) h
theorem lexR_cg {rk rk' : Nat → Nat} {a b : Nat} (ha : rk a = rk' a) (hb : rk b = rk' b) (h : lexR rk a b) : lexR rk' a b := by
  unfold lexR at h ⊢
  rw [← ha, ← hb]
  exact h
theorem lexR_nodup {rk : Nat → Nat} {A : List Nat} (h : A.Pairwise (lexR rk)) : A.Nodup := h.imp (fun {a b} hab z => by rw [z] at hab; exact lexR.irr hab)
theorem bad_same {ν : am_M} {q m ld x up dn : Nat} {kd : Int32} {ca cb : Nat → Int32} (hm : m ≤ 24) (h0 : mm_I ν q 0 = kd) (h2 : mm_I ν q 2 = nI up) (h3 : mm_I ν q 3 = nI dn) (hup : up ≤ 1000) (hdn : dn ≤ 1000) (ha : ∀ r, r < m → tkn ν q ld r = ca r) (hb : ∀ r, r < m → tkn ν q x r = cb r) : badF ν q m ld x = bdN kd up dn m ca cb := by
  obtain ⟨e1, e2⟩ := od_cg (kd := kd) ha hb
  have hD : 2 ^ odN ca cb m ≤ 2 ^ 26 := Nat.le_of_lt (p2_lt (Nat.le_trans (odN_le _ _ _) hm))
  show decide (¬ ((mm_I ν q 2).toInt64 * pw (odN (tkn ν q ld) (tkn ν q x) m) < odU (mm_I ν q 0) (tkn ν q ld) (tkn ν q x) m * (mm_I ν q 3).toInt64)) = decide (¬ (up * 2 ^ odN ca cb m < odUN kd ca cb m * dn))
  rw [h0, h2, h3, pw_N, odU_N, e1, e2]
  exact decide_eq_decide.mpr (not_congr (bd_cls (Nat.le_trans (odUN_le _ _ _ _) hD) hD hup hdn))
theorem fs_some {b : Nat → Bool} {n i y : Nat} (h : frst b n i = some y) : fsN b n i = y := by unfold fsN; rw [h]; rfl
theorem fs_none {b : Nat → Bool} {n i : Nat} (h : frst b n i = none) : fsN b n i = n := by unfold fsN; rw [h]; rfl
theorem fr_ex {b : Nat → Bool} {n s : Nat} (hs : s < n) (hb : b s = true) : ∃ y, frst b n 0 = some y := by
  rcases h : frst b n 0 with _ | y
  · have := frst_none h s (Nat.zero_le _) hs
    rw [hb] at this
    cases this
  · exact ⟨y, rfl⟩
theorem rn_f {μ ρ : am_M} {q t Rd rn En : Nat} {c : Int32} (ht : t < 12) (hρ : ρ = rnM μ q t Rd rn En c) : Fr μ ρ ∧ (∀ a k, (a ≠ q + 3 + t ∨ k ≠ Rd) → (a ≠ q + 16 ∨ k ≠ t) → (a ≠ q + 1 ∨ (k ≠ 13 ∧ k ≠ 11)) → mm_I ρ a k = mm_I μ a k) ∧ mm_I ρ (q + 3 + t) Rd = c ∧ mm_I ρ (q + 16) t = nI (Rd + 1) ∧ mm_I ρ (q + 1) 13 = nI (rn + 1) ∧ mm_I ρ (q + 1) 11 = enO (-1) (frst (fun s => decide (mm_I μ (q + 15) s = 0)) En (t + 1)) := by
  subst hρ
  refine ⟨⟨rfl, rfl, rfl⟩, fun a k h1 h2 h3 => ?_, ?_, ?_, ?_, ?_⟩
  · rw [mI_ne (by omega), mI_ne (by omega), mI_ne (by omega), mI_ne (by omega)]
  · rw [mI_ne (by omega), mI_ne (by omega), mI_ne (by omega), mI_same]
  · rw [mI_ne (by omega), mI_ne (by omega), mI_same]
  · rw [mI_ne (by omega), mI_same]
  · rw [mI_same]
section RUN
variable {μ ρ : am_M} {S N q L En Rd rn t up dn least : Nat} {od dF : Nat → Nat} {c : Int32}
theorem JR.tk2 (hR : JR μ S N q L En Rd rn t up dn least od dF) (hρ : ρ = rnM μ q t Rd rn En c) (hc : mm_I μ (4 + t) (od Rd) = c) (hct : ¬ c = -1) {s r : Nat} (hs : s < En) (h0 : dF s = 0) (hst : s ≤ t) (hr : r < Rd + 1) : mm_I ρ (q + 3 + s) r = mm_I μ (4 + s) (od r) ∧ ¬ mm_I μ (4 + s) (od r) = -1 := by
  have hE := hR.a.e
  obtain ⟨-, e, e3, -⟩ := rn_f (by have := hR.tn.2.2.1; omega) hρ
  by_cases hz : s = t ∧ r = Rd
  · obtain ⟨rfl, rfl⟩ := hz
    rw [e3, hc]
    exact ⟨rfl, hct⟩
  · rw [e _ _ (by omega) (by omega) (by omega)]
    refine hR.tk s r hs ?_
    unfold ruF
    rw [if_pos h0]
    by_cases hlt : s < t
    · rw [if_pos hlt]; exact hr
    · rw [if_neg hlt]; omega
theorem JR.step {ν : am_M} {t' : Nat} (hT : JT μ S N) (hR : JR μ S N q L En Rd rn t up dn least od dF) (hρ : ρ = rnM μ q t Rd rn En c) (hov : mm_I μ (q + 1) 14 = 0) (hc : mm_I μ (4 + t) (od Rd) = c) (hct : ¬ c = -1) (hf : frst (fun s => decide (mm_I μ (q + 15) s = 0)) En (t + 1) = some t') (hν : ν = mm_sI (mm_sI (mm_sI ρ 46 0 0) 46 16 (nI (rn + 1))) 46 18 (nI t')) : J ν := by
  have hE := hR.a.e
  have hq := hR.rc.qq
  have hS := hT.t.s
  have htn := hR.tn
  obtain ⟨f1, f2, f3, f4⟩ := frst_some hf
  have f3 : mm_I μ (q + 15) t' = 0 := of_decide_eq_true f3
  have g3 : dF t' = 0 := (hR.z0 hR.r24 (by omega)).mp f3
  have g4 : ∀ j, t < j → j < t' → ¬ dF j = 0 := fun j h1 h2 h3 => by
    have := f4 j (by omega) h2
    rw [(hR.z0 hR.r24 (by omega)).mpr h3] at this
    exact absurd this (by decide)
  have htk := fun s r => hR.tk2 hρ hc hct (s := s) (r := r)
  obtain ⟨r1, r2, r3, r4, r5, r6⟩ := rn_f (by omega) hρ
  rw [hf] at r6
  have r6 : mm_I ρ (q + 1) 11 = nI t' := r6
  have hF : Fr μ ν := r1.tr (by rw [hν]; exact ⟨rfl, rfl, rfl⟩)
  have n1 : ∀ a k, (a ≠ 46 ∨ (k ≠ 0 ∧ k ≠ 16 ∧ k ≠ 18)) → mm_I ν a k = mm_I ρ a k := fun a k h => by
    rw [hν, mI_ne (by omega), mI_ne (by omega), mI_ne (by omega)]
  have n16 : mm_I ν 46 16 = nI (rn + 1) := by rw [hν, mI_ne (by omega), mI_same]
  have n18 : mm_I ν 46 18 = nI t' := by rw [hν, mI_same]
  have e : ∀ a k, (a ≠ 46 ∨ (k ≠ 0 ∧ k ≠ 16 ∧ k ≠ 18)) → (a ≠ q + 3 + t ∨ k ≠ Rd) → (a ≠ q + 16 ∨ k ≠ t) → (a ≠ q + 1 ∨ (k ≠ 13 ∧ k ≠ 11)) → mm_I ν a k = mm_I μ a k := fun a k h1 h2 h3 h4 => (n1 a k h1).trans (r2 a k h2 h3 h4)
  have hru : ∀ s, s < En → s ≠ t → ruF dF Rd t' s = ruF dF Rd t s := fun s hs hst => by
    unfold ruF
    by_cases h0 : dF s = 0
    · rw [if_pos h0, if_pos h0]
      by_cases h1 : s < t
      · rw [if_pos h1, if_pos (by omega)]
      · have : ¬ s < t' := fun h2 => g4 s (by omega) h2 h0
        rw [if_neg h1, if_neg this]
    · rw [if_neg h0, if_neg h0]
  have hrt : ruF dF Rd t' t = Rd + 1 := by
    unfold ruF
    rw [if_pos htn.2.2.2, if_pos (by omega)]
  have hT2 : JT ν S N := hT.of (hT.b.fr hF) (fun a k ha => e a k (by omega) (by omega) (by omega) (by omega)) (e _ _ (by omega) (by omega) (by omega) (by omega)) (e _ _ (by omega) (by omega) (by omega) (by omega))
  refine ⟨S, N, hT2, Or.inr ⟨q, L, En, Rd, rn + 1, t', up, dn, least, od, dF, ?_⟩⟩
  have elf : lfC ν q = lfC μ q := funext fun s => by simp only [lfC]; rw [e (q + 15) s (by omega) (by omega) (by omega) (by omega)]
  have eq0 : ∀ k, mm_I ν q k = mm_I μ q k := fun k => e _ _ (by omega) (by omega) (by omega) (by omega)
  obtain ⟨h1, h2, h3, h4, h5, h6, h7, h8, h9, h10, h11, h12, h13, h14, h15, h16, h17, h18, h19⟩ := hR
  refine ⟨by rw [hF.2.1]; exact h1, h2.fr hF, by rw [hF.2.2]; exact h3, ⟨(e _ _ (by omega) (by omega) (by omega) (by omega)).trans h4.1, (e _ _ (by omega) (by omega) (by omega) (by omega)).trans h4.2.1, h4.2.2⟩, h5, by rw [eq0]; exact h6, by rw [eq0, eq0, eq0]; exact h7, fun k hk => by rw [e _ _ (by omega) (by omega) (by omega) (by omega), eq0]; exact h8 k hk, by rw [e _ _ (by omega) (by omega) (by omega) (by omega), e _ _ (by omega) (by omega) (by omega) (by omega), e _ _ (by omega) (by omega) (by omega) (by omega)]; exact h9, fun i hi => by rw [e _ _ (by omega) (by omega) (by omega) (by omega), e _ _ (by omega) (by omega) (by omega) (by omega)]; exact h10 i hi, fun s hs => by rw [e (q + 15) _ (by omega) (by omega) (by omega) (by omega), e 51 _ (by omega) (by omega) (by omega) (by omega)]; exact h11 s hs, ⟨(n1 _ _ (by omega)).trans r5, n16, by omega⟩, by rw [e _ _ (by omega) (by omega) (by omega) (by omega), e _ _ (by omega) (by omega) (by omega) (by omega)]; exact h13, by rw [e _ _ (by omega) (by omega) (by omega) (by omega)]; exact h14, fun h => absurd ((e _ _ (by omega) (by omega) (by omega) (by omega)).trans hov) h, ⟨(n1 _ _ (by omega)).trans r6, n18, f2, g3⟩, by rw [e _ _ (by omega) (by omega) (by omega) (by omega), elf]; exact h17, fun s hs => ?_, fun s r hs hr => ?_⟩
  · by_cases hst : s = t
    · subst hst
      rw [n1 _ _ (by omega), r4, hrt]
    · rw [e _ _ (by omega) (by omega) (by omega) (by omega), hru s hs hst]
      exact h18 s hs
  · rw [e (4 + s) _ (by omega) (by omega) (by omega) (by omega)]
    by_cases hst : s = t
    · subst hst
      rw [n1 _ _ (by omega)]
      rw [hrt] at hr
      exact htk s r hs htn.2.2.2 (Nat.le_refl _) hr
    · rw [e _ _ (by omega) (by omega) (by omega) (by omega)]
      rw [hru s hs hst] at hr
      exact h19 s r hs hr
theorem JR.drp {dr' : Nat → Int32} {rem' : Nat} (hT : JT μ S N) (hR : JR μ S N q L En Rd rn t up dn least od dF) (hρ : ρ = rnM μ q t Rd rn En c) (hRL : Rd < L) (hc : mm_I μ (4 + t) (od Rd) = c) (hct : ¬ c = -1) (hf : frst (fun s => decide (mm_I μ (q + 15) s = 0)) En (t + 1) = none) (hD : DrP ρ q En (Rd + 1) least (mm_I ρ q 1) (cnt (lfC μ q) En) dr' rem') :
    ∃ (T0 : List Nat) (ld : Nat), (mm_I μ q 1 ≤ nI (Rd + 1) → T0.Pairwise (fun x y => lexR (fun x => rkN (fun s => decide (mm_I μ (q + 15) s = 0)) (fun s r => cst μ s (od r)) (Rd + 1) x En) y x) ∧ (∀ s, s ∈ T0 ↔ s < En ∧ mm_I μ (q + 15) s = 0 ∧ s ≠ ld) ∧ T0.length ≤ 11 ∧ am1 (fun s => decide (mm_I μ (q + 15) s = 0)) (fun x => nI (rkN (fun s => decide (mm_I μ (q + 15) s = 0)) (fun s r => cst μ s (od r)) (Rd + 1) x En)) En = some ld) ∧
      (∀ drM : Nat → Int32, ((nI (Rd + 1) < mm_I μ q 1 ∧ drM = mm_I μ (q + 15)) ∨ (mm_I μ q 1 ≤ nI (Rd + 1) ∧ drM = (dropL (fun x => bdN (mm_I μ q 0) up dn (Rd + 1) (fun r => cst μ ld (od r)) (fun r => cst μ x (od r))) least (nI (Rd + 1)) T0 (mm_I μ (q + 15), cnt (lfC μ q) En)).1)) → drM = dr') ∧
      rem' = cnt (fun s => decide (dr' s = 0)) En ∧ (∀ s, dr' s = mm_I μ (q + 15) s ∨ (mm_I μ (q + 15) s = 0 ∧ s < En ∧ dr' s = nI (Rd + 1))) ∧ (∃ s, s < En ∧ dr' s = 0) := by
  have hE := hR.a.e
  have hq := hR.rc.qq
  have hL := hR.rc.l
  have htn := hR.tn
  have hru := hR.ru
  obtain ⟨r1, r2, r3, r4, r5, r6⟩ := rn_f (by omega) hρ
  have e15 : mm_I ρ (q + 15) = mm_I μ (q + 15) := funext fun s => r2 _ _ (by omega) (by omega) (by omega)
  have eq0 : ∀ k, mm_I ρ q k = mm_I μ q k := fun k => r2 _ _ (by omega) (by omega) (by omega)
  have hle : ∀ s, s < En → mm_I μ (q + 15) s = 0 → s ≤ t ∧ dF s = 0 := fun s hs h0 => ⟨by
    rcases Nat.lt_or_ge t s with z | z
    · have := frst_none hf s (by omega) hs
      rw [h0] at this
      exact absurd this (by decide)
    · exact z, (hR.z0 hR.r24 (by omega)).mp h0⟩
  have ht0 : mm_I μ (q + 15) t = 0 := (hR.z0 hR.r24 (by omega)).mpr htn.2.2.2
  have htk : ∀ s, s < En → mm_I μ (q + 15) s = 0 → ∀ r, r < Rd + 1 → tkn ρ q s r = cst μ s (od r) := fun s hs h0 r hr => (hR.tk2 hρ hc hct hs (hle s hs h0).2 (hle s hs h0).1 hr).1
  rw [eq0] at hD
  rcases hD with ⟨h1, h2, h3⟩ | ⟨h1, A, ld, hh, hA, hm, hl, hd, -⟩
  · rw [e15] at h2
    subst h2 h3
    refine ⟨[], 0, fun h => absurd h1 (Int32.not_lt.mpr h), fun drM h => ?_, rfl, fun s => Or.inl rfl, t, htn.2.2.1, ht0⟩
    rcases h with ⟨_, h⟩ | ⟨h, _⟩
    · exact h
    · exact absurd h1 (Int32.not_lt.mpr h)
  · rw [e15] at hm hd
    have hrk : ∀ s, s < En → mm_I μ (q + 15) s = 0 → rkF ρ q (Rd + 1) En s = rkN (fun s => decide (mm_I μ (q + 15) s = 0)) (fun s r => cst μ s (od r)) (Rd + 1) s En := fun s hs h0 => by
      show rkN (fun s => decide (mm_I ρ (q + 15) s = 0)) (tkn ρ q) (Rd + 1) s En = _
      rw [e15]
      exact rkN_cg (fun r hr => htk s hs h0 r hr) (fun o ho hlo r hr => htk o ho (of_decide_eq_true hlo) r hr)
    have hA2 : A.Pairwise (lexR (fun x => rkN (fun s => decide (mm_I μ (q + 15) s = 0)) (fun s r => cst μ s (od r)) (Rd + 1) x En)) := hA.imp_of_mem (fun {a b} ha hb h => by
      have ha := (hm a).mp ha
      have hb := (hm b).mp hb
      exact lexR_cg (hrk a ha.1 ha.2) (hrk b hb.1 hb.2) h)
    obtain ⟨B, rfl⟩ : ∃ B, A = ld :: B := by
      cases A with
      | nil => cases hh
      | cons a B => exact ⟨B, by simp only [List.head?_cons, Option.some.injEq] at hh; rw [hh]⟩
    have hld := (hm ld).mp List.mem_cons_self
    have hnd := lexR_nodup hA2
    rw [List.nodup_cons] at hnd
    have hmB : ∀ s, s ∈ B ↔ s < En ∧ mm_I μ (q + 15) s = 0 ∧ s ≠ ld := fun s => by
      constructor
      · intro h
        have h2 := (hm s).mp (List.mem_cons_of_mem _ h)
        exact ⟨h2.1, h2.2, fun z => hnd.1 (z ▸ h)⟩
      · intro h
        have h2 := (hm s).mpr ⟨h.1, h.2.1⟩
        rcases List.mem_cons.mp h2 with z | z
        · exact absurd z h.2.2
        · exact z
    have hmR : ∀ s, s ∈ B.reverse ↔ s < En ∧ mm_I μ (q + 15) s = 0 ∧ s ≠ ld := fun s => by rw [List.mem_reverse]; exact hmB s
    rw [todo_all (ld := ld) rfl] at hd
    have hd : dropL (badF ρ q (Rd + 1) ld) least (nI (Rd + 1)) B.reverse (mm_I μ (q + 15), cnt (lfC μ q) En) = (dr', rem') := hd
    have hne : ¬ nI (Rd + 1) = 0 := nI_ne0 (by omega) (by omega)
    have hcn := dropL_cnt (bad := badF ρ q (Rd + 1) ld) (least := least) (En := En) hne (l := B.reverse) (st := (mm_I μ (q + 15), cnt (lfC μ q) En)) (List.pairwise_reverse.mpr (hnd.2.imp (fun h z => h z.symm))) (fun s hs => ⟨((hmR s).mp hs).1, ((hmR s).mp hs).2.1⟩) rfl
    have hvl := fun s => dropL_val (bad := badF ρ q (Rd + 1) ld) (least := least) (rd := nI (Rd + 1)) (l := B.reverse) (st := (mm_I μ (q + 15), cnt (lfC μ q) En)) s
    have hcg := dropL_congr (bad := badF ρ q (Rd + 1) ld) (bad' := fun x => bdN (mm_I μ q 0) up dn (Rd + 1) (fun r => cst μ ld (od r)) (fun r => cst μ x (od r))) (least := least) (rd := nI (Rd + 1)) (l := B.reverse) (st := (mm_I μ (q + 15), cnt (lfC μ q) En)) (fun x hx => bad_same (by omega) (eq0 0) ((eq0 2).trans hru.1) ((eq0 3).trans hru.2.1) hru.2.2.2.1 hru.2.2.2.2.1 (fun r hr => htk ld hld.1 hld.2 r hr) (fun r hr => htk x ((hmR x).mp hx).1 ((hmR x).mp hx).2.1 r hr))
    rw [hd] at hcn hvl hcg
    refine ⟨B.reverse, ld, fun _ => ⟨List.pairwise_reverse.mpr (List.pairwise_cons.mp hA2).2, hmR, by rw [List.length_reverse]; simp only [List.length_cons] at hl; omega, ?_⟩, fun drM h => ?_, hcn, fun s => ?_, ld, hld.1, ?_⟩
    · exact am_head hA2 (fun s => by rw [hm s]; simp) (fun s => Nat.lt_of_le_of_lt (rkN_top _ _ (by omega) hE) (by decide))
    · rcases h with ⟨h, _⟩ | ⟨_, h⟩
      · exact absurd h (Int32.not_lt.mpr h1)
      · rw [h, hcg]
    · rcases hvl s with z | z
      · exact Or.inl z
      · exact Or.inr ⟨((hmR s).mp z.1).2.1, ((hmR s).mp z.1).1, z.2⟩
    · rcases hvl ld with z | z
      · exact z.trans hld.2
      · exact absurd rfl ((hmR ld).mp z.1).2.2
end RUN
