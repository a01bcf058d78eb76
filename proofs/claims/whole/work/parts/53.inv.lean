/-! what holds between class and model -/
def JT (μ : am_M) (S N : Nat) : Prop := Bs μ ∧ Tb μ S N ∧ Mt μ S N (cst μ) ∧ (∀ s i, s < 12 → i < 24 → (S ≤ s ∨ N ≤ i) → mm_I μ (4 + s) i = -1) ∧ (∀ s, s < 12 → mm_I μ 16 s = nI (cnt (fun i => decide (¬ mm_I μ (4 + s) i = -1)) 24)) ∧ (∀ f i, f < 2 → i < N → mm_I μ 47 (2 * i + f) = mm_I μ (18 + f) i ∧ 0 ≤ mm_I μ (18 + f) i ∧ mm_I μ (18 + f) i ≤ nI 100) ∧ (∀ i, i < N → mm_I μ 48 i = bz (¬ lrn μ i = true))
def ruF (dF : Nat → Nat) (Rd t s : Nat) : Nat := if dF s = 0 then (if s < t then Rd + 1 else Rd) else dF s
abbrev lfC (μ : am_M) (q : Nat) : Nat → Bool := fun s => decide (mm_I μ (q + 15) s = 0)
def JR (μ : am_M) (S N q L En Rd rn t up dn least : Nat) (od dF : Nat → Nat) : Prop :=
  mm_R μ 1 4 = some (q + 1) ∧ Rc μ q L ∧ q + 20 ≤ mm_Z μ ∧ Ra μ q En Rd ∧ (0 < En ∧ En ≤ S ∧ Rd ≤ L) ∧
  (mm_I μ q 0 = 0 ∨ mm_I μ q 0 = 1) ∧ (mm_I μ q 2 = nI up ∧ mm_I μ q 3 = nI dn ∧ mm_I μ q 4 = nI least ∧ up ≤ 1000 ∧ dn ≤ 1000 ∧ 1 ≤ least ∧ least ≤ 12) ∧
  (∀ k, k < 6 → mm_I μ 46 (6 + k) = mm_I μ q k) ∧ (mm_I μ 46 12 = nI En ∧ mm_I μ 46 13 = nI L ∧ mm_I μ 46 15 = nI Rd) ∧
  (∀ i, i < L → mm_I μ (q + 19) i = nI (od i) ∧ mm_I μ 50 i = nI (od i) ∧ od i < N) ∧
  (∀ s, s < 12 → mm_I μ (q + 15) s = nI (dF s) ∧ mm_I μ 51 s = mm_I μ (q + 15) s ∧ dF s ≤ Rd) ∧
  (mm_I μ (q + 1) 13 = nI rn ∧ mm_I μ 46 16 = nI rn ∧ rn ≤ 12 * Rd + t) ∧
  mm_I μ 46 17 = mm_I μ (q + 1) 14 ∧ (mm_I μ (q + 1) 14 = 0 → Rd < L) ∧ (¬ mm_I μ (q + 1) 14 = 0 → ∀ s, s < t → ¬ dF s = 0) ∧
  (mm_I μ (q + 1) 11 = nI t ∧ mm_I μ 46 18 = nI t ∧ t < En ∧ dF t = 0) ∧
  mm_I μ (q + 1) 10 = nI (cnt (lfC μ q) En) ∧
  (∀ s, s < En → mm_I μ (q + 16) s = nI (ruF dF Rd t s)) ∧
  (∀ s r, s < En → r < ruF dF Rd t s → mm_I μ (q + 3 + s) r = mm_I μ (4 + s) (od r) ∧ ¬ mm_I μ (4 + s) (od r) = -1)
def J (μ : am_M) : Prop := ∃ S N, JT μ S N ∧ ((mm_R μ 1 4 = none ∧ mm_I μ 46 6 = -1) ∨ ∃ q L En Rd rn t up dn least od dF, JR μ S N q L En Rd rn t up dn least od dF)
theorem Mt.cg {μ : am_M} {S N : Nat} {cs cs' : Nat → Nat → Int32} (h : Mt μ S N cs) (e : ∀ s i, s < 12 → i < 24 → cs' s i = cs s i) : Mt μ S N cs' := ⟨h.1, h.2.1, h.2.2.1, h.2.2.2.1, fun s i hs hi => by rw [e s i hs hi]; exact h.2.2.2.2.1 s i hs hi, fun s i hs hi => by rw [e s i hs hi]; exact h.2.2.2.2.2 s i hs hi⟩
theorem JT.of {μ ν : am_M} {S N : Nat} (h : JT μ S N) (hb : Bs ν) (e : ∀ a k, (a < 21 ∨ (47 ≤ a ∧ a ≤ 49)) → mm_I ν a k = mm_I μ a k) (e1 : mm_I ν 46 1 = mm_I μ 46 1) (e2 : mm_I ν 46 2 = mm_I μ 46 2) : JT ν S N := by
  obtain ⟨h1, h2, h3, h4, h5, h6, h7⟩ := h
  have ec : ∀ s i, s < 12 → i < 24 → cst ν s i = cst μ s i := fun s i hs hi => e _ _ (Or.inl (by omega))
  refine ⟨hb, h2.keep (e _ _ (Or.inl (by decide))) (e _ _ (Or.inl (by decide))), (h3.keep e1 e2 (fun k => e _ _ (Or.inr (by decide)))).cg ec, fun s i hs hi ho => (e _ _ (Or.inl (by omega))).trans (h4 s i hs hi ho), fun s hs => ?_, fun f i hf hi => ?_, fun i hi => ?_⟩
  · rw [e 16 s (Or.inl (by decide)), h5 s hs]
    exact congrArg nI (cnt_congr (fun j hj => by rw [e (4 + s) j (Or.inl (by omega))]))
  · rw [e 47 _ (Or.inr (by decide)), e (18 + f) i (Or.inl (by omega))]
    exact h6 f i hf hi
  · rw [e 48 i (Or.inr (by decide)), h7 i hi]
    have hl : lrn ν i = lrn μ i := by
      simp only [lrn]
      rw [e 20 i (Or.inl (by decide))]
    exact bz_congr (by rw [hl])
theorem JR.of {μ ν : am_M} {S N q L En Rd rn t up dn least : Nat} {od dF : Nat → Nat} (h : JR μ S N q L En Rd rn t up dn least od dF) (hS : S ≤ 12) (hr : Rc ν q L) (h14 : mm_R ν 1 4 = mm_R μ 1 4) (hz : mm_Z μ ≤ mm_Z ν)
    (e : ∀ a k, (a < 21 ∨ a = 50 ∨ a = 51 ∨ (q ≤ a ∧ a ≤ q + 16) ∨ a = q + 19) → mm_I ν a k = mm_I μ a k) (e46 : ∀ k, 6 ≤ k → k < 21 → mm_I ν 46 k = mm_I μ 46 k) : JR ν S N q L En Rd rn t up dn least od dF := by
  obtain ⟨h1, h2, h3, h4, h5, h6, h7, h8, h9, h10, h11, h12, h13, h14', h15, h16, h17, h18, h19⟩ := h
  have hE := h4.e
  have eq0 : ∀ k, mm_I ν q k = mm_I μ q k := fun k => e _ _ (by omega)
  have eq1 : ∀ k, mm_I ν (q + 1) k = mm_I μ (q + 1) k := fun k => e _ _ (by omega)
  have elf : lfC ν q = lfC μ q := funext fun s => by simp only [lfC]; rw [e (q + 15) s (by omega)]
  refine ⟨h14.trans h1, hr, by omega, ⟨(eq1 4).trans h4.1, (eq1 12).trans h4.2.1, h4.2.2⟩, h5, by rw [eq0]; exact h6, by rw [eq0, eq0, eq0]; exact h7, fun k hk => by rw [e46 _ (by omega) (by omega), eq0]; exact h8 k hk, by rw [e46 _ (by decide) (by decide), e46 _ (by decide) (by decide), e46 _ (by decide) (by decide)]; exact h9, fun i hi => by rw [e _ _ (by omega), e _ _ (by omega)]; exact h10 i hi, fun s hs => by rw [e (q + 15) _ (by omega), e 51 _ (by omega)]; exact h11 s hs, by rw [eq1, e46 _ (by decide) (by decide)]; exact h12, by rw [e46 _ (by decide) (by decide), eq1]; exact h13, by rw [eq1]; exact h14', by rw [eq1]; exact h15, by rw [eq1, e46 _ (by decide) (by decide)]; exact h16, by rw [eq1, elf]; exact h17, fun s hs => by rw [e _ _ (by omega)]; exact h18 s hs, fun s r hs hr2 => ?_⟩
  rw [e (q + 3 + s) r (by omega), e (4 + s) (od r) (by omega)]
  exact h19 s r hs hr2
def Sq (q a : Nat) : Prop := (21 ≤ a ∧ a ≤ 45) ∨ (52 ≤ a ∧ a ≤ 56) ∨ a = q + 17 ∨ a = q + 18
/-- nothing that lasts has changed -/
def Qq (q : Nat) (μ ν : am_M) : Prop := Fr μ ν ∧ (∀ a k, a ≠ 46 → ¬ Sq q a → mm_I ν a k = mm_I μ a k) ∧ (∀ k, k ≠ 0 → k < 21 → mm_I ν 46 k = mm_I μ 46 k)
theorem Qq.rf (q : Nat) (μ : am_M) : Qq q μ μ := ⟨Fr.rf μ, fun _ _ _ _ => rfl, fun _ _ _ => rfl⟩
theorem Qq.tr {q : Nat} {μ ν ξ : am_M} (h : Qq q μ ν) (h2 : Qq q ν ξ) : Qq q μ ξ := ⟨h.1.tr h2.1, fun a k h3 h4 => (h2.2.1 a k h3 h4).trans (h.2.1 a k h3 h4), fun k h3 h4 => (h2.2.2 k h3 h4).trans (h.2.2 k h3 h4)⟩
theorem Qq.th (q : Nat) (μ : am_M) (v : Int32) : Qq q μ (mm_sI μ 46 0 v) := ⟨Fr.sI _ _ _ _, fun a k h1 _ => mI_ne (Or.inl h1), fun k h1 _ => mI_ne (Or.inr h1)⟩
theorem Qq.s46 {q : Nat} {μ ν : am_M} (h : Qq q μ ν) {k : Nat} (hk : 21 ≤ k) (v : Int32) : Qq q μ (mm_sI ν 46 k v) := h.tr ⟨Fr.sI _ _ _ _, fun a k h1 _ => mI_ne (Or.inl h1), fun j _ h2 => mI_ne (Or.inr (by omega))⟩
theorem Qq.sm {q : Nat} {μ ν : am_M} {S : Nat → Prop} (h : Sm S μ ν) (hS : ∀ a, S a → Sq q a) (h46 : ¬ S 46) : Qq q μ ν := ⟨h.1, fun a k _ h2 => h.2.1 a k (fun z => h2 (hS a z)), fun k _ _ => h.2.1 46 k h46⟩
theorem Qq.smo {q : Nat} {μ ν : am_M} (h : Sm Smo μ ν) (h46 : ∀ k, mm_I ν 46 k = mm_I μ 46 k) : Qq q μ ν := ⟨h.1, fun a k h1 h2 => h.2.1 a k (fun z => h2 (by unfold Smo at z; unfold Sq; omega)), fun k _ _ => h46 k⟩
theorem Qq.kst {q : Nat} {μ ν : am_M} (h : Kst μ ν) : Qq q μ ν := ⟨h.1, fun a k h1 _ => h.2.1 a k (Or.inl h1), fun k _ h2 => h.2.1 46 k (Or.inr (by omega))⟩
theorem JT.q {μ ν : am_M} {S N q : Nat} (h : JT μ S N) (hq : Qq q μ ν) (h57 : 57 ≤ q) : JT ν S N := h.of (h.1.fr hq.1) (fun a k ha => hq.2.1 a k (by omega) (by unfold Sq; omega)) (hq.2.2 1 (by decide) (by decide)) (hq.2.2 2 (by decide) (by decide))
theorem JR.q {μ ν : am_M} {S N q L En Rd rn t up dn least : Nat} {od dF : Nat → Nat} (h : JR μ S N q L En Rd rn t up dn least od dF) (hS : S ≤ 12) (hq : Qq q μ ν) : JR ν S N q L En Rd rn t up dn least od dF := by
  have h57 := h.2.1.qq
  refine h.of hS (h.2.1.fr hq.1) (by rw [hq.1.2.1]) (by rw [hq.1.2.2]; exact Nat.le_refl _) (fun a k ha => hq.2.1 a k (by omega) (by unfold Sq; omega)) (fun k h1 h2 => hq.2.2 k (by omega) h2)
theorem J.no {μ ν : am_M} {S N : Nat} (h : JT μ S N) (h14 : mm_R μ 1 4 = none) (h6 : mm_I μ 46 6 = -1) (hq : Qq 57 μ ν) : J ν := ⟨S, N, h.q hq (Nat.le_refl _), Or.inl ⟨by rw [hq.1.2.1]; exact h14, (hq.2.2 6 (by decide) (by decide)).trans h6⟩⟩
theorem J.ra {μ ν : am_M} {S N q L En Rd rn t up dn least : Nat} {od dF : Nat → Nat} (h : JT μ S N) (hr : JR μ S N q L En Rd rn t up dn least od dF) (hq : Qq q μ ν) : J ν := ⟨S, N, h.q hq hr.2.1.qq, Or.inr ⟨q, L, En, Rd, rn, t, up, dn, least, od, dF, hr.q h.2.1.s hq⟩⟩
theorem J.any {μ ν : am_M} (h : J μ) (hq : ∀ q, 57 ≤ q → Qq q μ ν) : J ν := by
  obtain ⟨S, N, hT, ⟨h1, h2⟩ | ⟨q, L, En, Rd, rn, t, up, dn, least, od, dF, hR⟩⟩ := h
  · exact J.no hT h1 h2 (hq 57 (Nat.le_refl _))
  · exact J.ra hT hR (hq q hR.2.1.qq)
theorem J.kp {μ ν : am_M} (h : J μ) (hk : Kp μ ν) : J ν := by
  obtain ⟨S, N, hT, h1⟩ := h
  have hz := hT.1.z
  have hT2 : JT ν S N := hT.of (hT.1.kp hk) (fun a k ha => hk.2.2.1 a k (by omega)) (hk.2.2.1 _ _ (by omega)) (hk.2.2.1 _ _ (by omega))
  refine ⟨S, N, hT2, ?_⟩
  rcases h1 with ⟨h1, h2⟩ | ⟨q, L, En, Rd, rn, t, up, dn, least, od, dF, hR⟩
  · exact Or.inl ⟨(hk.2.2.2.2 1 4 (by omega)).trans h1, (hk.2.2.1 46 6 (by omega)).trans h2⟩
  · have hzq := hR.2.2.1
    exact Or.inr ⟨q, L, En, Rd, rn, t, up, dn, least, od, dF, hR.of hT.2.1.s (hR.2.1.kp hk hzq) (hk.2.2.2.2 1 4 (by omega)) hk.1 (fun a k ha => hk.2.2.1 a k (by omega)) (fun k _ _ => hk.2.2.1 46 k (by omega))⟩
section JTX
variable {μ : am_M} {S N : Nat}
theorem JT.b (h : JT μ S N) : Bs μ := h.1
theorem JT.t (h : JT μ S N) : Tb μ S N := h.2.1
theorem JT.m (h : JT μ S N) : Mt μ S N (cst μ) := h.2.2.1
theorem JT.f (h : JT μ S N) : ∀ f i, f < 2 → i < N → mm_I μ 47 (2 * i + f) = ftF μ f i := fun f i hf hi => (h.2.2.2.2.2.1 f i hf hi).1
theorem JT.h (h : JT μ S N) : ∀ i, i < N → mm_I μ 48 i = bz (¬ lrn μ i = true) := h.2.2.2.2.2.2
theorem JT.fr0 (h : JT μ S N) : ∀ f i, f < 2 → i < N → 0 ≤ mm_I μ (18 + f) i ∧ mm_I μ (18 + f) i ≤ nI 100 := fun f i hf hi => (h.2.2.2.2.2.1 f i hf hi).2
theorem JT.fe (h : JT μ S N) : Fe μ N := fun f i hf hi => (h.fr0 f i hf hi).1
theorem JT.rng (h : JT μ S N) : ∀ s i, s < 12 → i < 24 → mm_I μ (4 + s) i = -1 ∨ (0 ≤ mm_I μ (4 + s) i ∧ mm_I μ (4 + s) i ≤ 2000000) := fun s i hs hi => h.m.2.2.2.2.2 s i hs hi
theorem JT.wh (h : JT μ S N) : ∀ s, s < 12 → whB μ N s = whM (cst μ) N s := fun s hs => by
  have h1 := wh_eq (t := fun i => decide (¬ mm_I μ (4 + s) i = -1)) (h.2.2.2.2.1 s hs) h.t.n (fun i h1 h2 => by simp [h.2.2.2.1 s i hs h2 (Or.inr h1)])
  rw [Bool.eq_iff_iff, whM_iff]
  simp only [whB, decide_eq_true_eq]
  rw [h1]
  exact ⟨fun z i hi => of_decide_eq_true (z i hi), fun z i hi => decide_eq_true (z i hi)⟩
theorem JT.dir (h : JT μ S N) {i j : Nat} (hi : i < N) (hj : j < N) : di μ j i = dfM (ftF μ) i j ∧ di μ j i < 2147483647 := by
  have a0 := ab_sym (h.fr0 0 j (by decide) hj) (h.fr0 0 i (by decide) hi)
  have a1 := ab_sym (h.fr0 1 j (by decide) hj) (h.fr0 1 i (by decide) hi)
  obtain ⟨e0, x0, l0, v0⟩ := a0
  obtain ⟨e1, x1, l1, v1⟩ := a1
  refine ⟨?_, ?_⟩
  · unfold di dfM
    show ab (mm_I μ (18 + 0) j - mm_I μ (18 + 0) i) + ab (mm_I μ (18 + 1) j - mm_I μ (18 + 1) i) = _
    rw [e0, e1]
  · unfold di
    show ab (mm_I μ (18 + 0) j - mm_I μ (18 + 0) i) + ab (mm_I μ (18 + 1) j - mm_I μ (18 + 1) i) < _
    rw [v0, v1, nI_add]
    exact (nI_ltI (b := 2147483647) (by omega) (by decide)).mpr (by omega)
theorem JT.v (h : JT μ S N) : Tv μ S N := ⟨fun s i hs hi => by
  have h1 := h.t.s
  have h2 := h.t.n
  rcases h.rng s i (by omega) (by omega) with z | z
  · rw [z]; decide
  · exact Int32.lt_of_le_of_lt z.2 (by decide), fun i j hi hj => (h.dir hj hi).2⟩
theorem JT.nr (h : JT μ S N) {i : Nat} (hi : i < N) : nrF μ N i = nrM (lrn μ) (ftF μ) N i := am1_congr (fun j hj => ⟨rfl, fun _ => (h.dir hi hj).1⟩)
theorem JT.bs (h : JT μ S N) (j : Nat) : bsF μ S N j = bsM (cst μ) S N j := am1_congr (fun s hs => ⟨h.wh s (by have := h.t.s; omega), fun _ => rfl⟩)
theorem JT.pk (h : JT μ S N) {i : Nat} (hi : i < N) : pkF μ S N i = pkM (lrn μ) (ftF μ) (cst μ) S N i := by
  unfold pkF pkM
  rw [h.nr hi]
  rcases nrM (lrn μ) (ftF μ) N i with _ | j
  · rfl
  · exact h.bs j
theorem JT.cw (h : JT μ S N) : cnt (whB μ N) S = cnt (whM (cst μ) N) S := cnt_congr (fun s hs => h.wh s (by have := h.t.s; omega))
theorem JT.told (h : JT μ S N) {s i : Nat} (hs : s < S) (hw : whM (cst μ) N s = true) (hi : i < N) : ∃ a : Nat, a ≤ 2000000 ∧ cst μ s i = nI a := cs_nat (h.rng s i (by have := h.t.s; omega) (by have := h.t.n; omega)) (whM_iff.mp hw i hi)
end JTX
