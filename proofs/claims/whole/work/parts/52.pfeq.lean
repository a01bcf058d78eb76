/-! the best few: class and model -/
theorem cnt_inj {b : Nat → Bool} {s t : Nat} (hs : b s = true) (ht : b t = true) (h : cnt b s = cnt b t) : s = t := by
  rcases Nat.lt_trichotomy s t with z | z | z
  · have h1 := cnt_mono b (show s + 1 ≤ t by omega)
    rw [cnt_t hs] at h1
    omega
  · exact z
  · have h1 := cnt_mono b (show t + 1 ≤ s by omega)
    rw [cnt_t ht] at h1
    omega
theorem cnt_lt {b : Nat → Bool} {s n : Nat} (hs : b s = true) (h : s < n) : cnt b s < cnt b n := by
  have h1 := cnt_mono b (show s + 1 ≤ n by omega)
  rw [cnt_t hs] at h1
  omega
theorem cnt_prt {p : Nat → Nat} {m k : Nat} (hp : inc m k p) : ∀ (n j : Nat), j ≤ k → (∀ i, i < j → p i < n) → (∀ i, j ≤ i → i < k → n ≤ p i) → cnt (prt p k) n = j
  | 0, j, hj, h1, h2 => by
    rcases Nat.eq_zero_or_pos j with z | z
    · rw [z]; rfl
    · exact absurd (h1 0 z) (by omega)
  | n + 1, j, hj, h1, h2 => by
    by_cases hq : prt p k n = true
    · obtain ⟨i0, a1, a2⟩ := prt_iff.mp hq
      have hi : i0 < j := by
        rcases Nat.lt_or_ge i0 j with z | z
        · exact z
        · have := h2 i0 z a1; omega
      have hj1 : i0 = j - 1 := by
        rcases Nat.lt_or_ge i0 (j - 1) with z | z
        · have h3 := hp.lt z (show j - 1 < k by omega)
          have h4 := h1 (j - 1) (by omega)
          omega
        · omega
      have ih := cnt_prt hp n (j - 1) (by omega) (fun i hi2 => by have := hp.lt (show i < i0 by omega) a1; omega) (fun i hi2 hi3 => by
        rcases Nat.eq_or_lt_of_le hi2 with z | z
        · rw [← z, ← hj1, a2]; exact Nat.le_refl _
        · have := hp.lt (show i0 < i by omega) hi3; omega)
      rw [cnt_t hq, ih]
      omega
    · have hne : ∀ i, i < k → p i ≠ n := fun i hi e => hq (prt_iff.mpr ⟨i, hi, e⟩)
      rw [cnt_f hq]
      exact cnt_prt hp n j hj (fun i hi => by have := h1 i hi; have := hne i (by omega); omega) (fun i hi2 hi3 => by have := h2 i hi2 hi3; omega)
theorem mnF_le {c : Nat → Int32} : ∀ {k j : Nat}, j < k → mnF c k ≤ c j
  | k + 1, j, h => by
    simp only [mnF, mnI]
    rcases Nat.lt_or_ge j k with z | z
    · have ih := mnF_le (c := c) z
      split
      · rename_i q; exact Int32.le_trans (Int32.le_of_lt q) ih
      · exact ih
    · rw [show j = k by omega]
      split
      · exact Int32.le_refl _
      · rename_i q; exact Int32.not_lt.mp q
theorem mnF_or {c : Nat → Int32} : ∀ {k : Nat}, mnF c k = 2000000 ∨ ∃ j, j < k ∧ mnF c k = c j
  | 0 => Or.inl rfl
  | k + 1 => by
    simp only [mnF, mnI]
    split
    · exact Or.inr ⟨k, by omega, rfl⟩
    · rcases mnF_or (c := c) (k := k) with h | ⟨j, h1, h2⟩
      · exact Or.inl h
      · exact Or.inr ⟨j, by omega, h2⟩
theorem lfM_le {b : Nat → Bool} {c : Nat → Int32} : ∀ {S s : Nat}, s < S → b s = true → lfM b c S ≤ c s
  | S + 1, s, h, hb => by
    simp only [lfM]
    rcases Nat.lt_or_ge s S with z | z
    · have ih := lfM_le (c := c) z hb
      split
      · rename_i q; exact Int32.le_trans (Int32.le_of_lt q.2) ih
      · exact ih
    · rw [show s = S by omega] at hb ⊢
      split
      · exact Int32.le_refl _
      · rename_i q; exact Int32.not_lt.mp (fun z => q ⟨hb, z⟩)
theorem lfM_or {b : Nat → Bool} {c : Nat → Int32} : ∀ {S : Nat}, lfM b c S = 2000001 ∨ ∃ s, s < S ∧ b s = true ∧ lfM b c S = c s
  | 0 => Or.inl rfl
  | S + 1 => by
    simp only [lfM]
    split
    · rename_i q; exact Or.inr ⟨S, by omega, q.1, rfl⟩
    · rcases lfM_or (b := b) (c := c) (S := S) with h | ⟨s, h1, h2, h3⟩
      · exact Or.inl h
      · exact Or.inr ⟨s, by omega, h2, h3⟩
theorem le_2m {a : Nat} (h : a ≤ 2000000) : nI a ≤ 2000000 := (nI_leI (b := 2000000) (by omega) (by decide)).mpr h
/-- the least of a set, by its places, by its members -/
theorem mn_lf {b : Nat → Bool} {c : Nat → Int32} {p : Nat → Nat} {k S : Nat} (hk : 1 ≤ k) (hb : ∀ s, b s = true ↔ ∃ j, j < k ∧ p j = s) (hp : ∀ j, j < k → p j < S ∧ c (p j) ≤ 2000000) : mnF (fun j => c (p j)) k = lfM b c S := by
  have hb' : ∀ j, j < k → b (p j) = true := fun j hj => (hb _).mpr ⟨j, hj, rfl⟩
  have h0 := mnF_le (c := fun j => c (p j)) (show 0 < k by omega)
  have h02 : mnF (fun j => c (p j)) k ≤ 2000000 := Int32.le_trans h0 (hp 0 (by omega)).2
  have hl0 : lfM b c S ≤ 2000000 := Int32.le_trans (lfM_le (hp 0 (by omega)).1 (hb' 0 (by omega))) (hp 0 (by omega)).2
  have hex : ∃ j, j < k ∧ mnF (fun j => c (p j)) k = c (p j) := by
    rcases mnF_or (c := fun j => c (p j)) (k := k) with h | h
    · rw [h] at h0
      exact ⟨0, by omega, by rw [h]; exact Int32.le_antisymm h0 (hp 0 (by omega)).2⟩
    · exact h
  have hex2 : ∃ s, s < S ∧ b s = true ∧ lfM b c S = c s := by
    rcases lfM_or (b := b) (c := c) (S := S) with h | h
    · rw [h] at hl0
      exact absurd hl0 (by decide)
    · exact h
  obtain ⟨j, j1, j2⟩ := hex
  obtain ⟨s, s1, s2, s3⟩ := hex2
  obtain ⟨i, i1, i2⟩ := (hb s).mp s2
  refine Int32.le_antisymm ?_ ?_
  · rw [s3, ← i2]
    exact mnF_le (c := fun j => c (p j)) i1
  · rw [j2]
    exact lfM_le (hp j j1).1 (hb' j j1)
theorem al_bit {wh : Nat → Bool} {S s : Nat} : (bitsN wh S).testBit s = true ↔ s < S ∧ wh s = true := by
  rcases Nat.lt_or_ge s S with z | z
  · rw [bitsN_bit wh S s z]
    exact ⟨fun h => ⟨z, h⟩, fun h => h.2⟩
  · rw [Nat.testBit_lt_two_pow (Nat.lt_of_lt_of_le (bitsN_lt wh S) (Nat.pow_le_pow_right (by decide) z))]
    exact ⟨fun h => (by cases h), fun h => absurd h.1 (by omega)⟩
theorem sub_iff {X A : Nat} : X &&& A = X ↔ ∀ s, X.testBit s = true → A.testBit s = true := by
  constructor
  · intro h s hs
    have h1 : (X &&& A).testBit s = true := by rw [h]; exact hs
    rw [Nat.testBit_and, hs] at h1
    simpa using h1
  · intro h
    refine Nat.eq_of_testBit_eq (fun i => ?_)
    rw [Nat.testBit_and]
    cases hx : X.testBit i with
    | false => rfl
    | true => rw [h i hx]; rfl
theorem pf_same {wh lr : Nat → Bool} {cs : Nat → Nat → Int32} {S N k B : Nat} {wf b : Nat → Nat} {least : Int32} (hS : S ≤ 12) (hk : 1 ≤ k)
    (hcs : ∀ s, s < S → wh s = true → ∀ i, i < N → cs s i ≤ 2000000)
    (hwf : ∀ x, x < cnt wh S → wf x < S ∧ wh (wf x) = true ∧ cnt wh (wf x) = x)
    (hF : Fnl (sumP lr cs wf k N) (cnt wh S) k least b)
    (hB : B < 4096) (hBc : cnX (bitsN wh S) k B) (hBm : ∀ Y, Y < 4096 → cnX (bitsN wh S) k Y → bsC (smX lr cs S N) B Y) :
    smX lr cs S N B = least ∧ ∀ j, j < k → kth (fun s => Nat.testBit B s) 12 j = some (wf (b j)) := by
  obtain ⟨hbi, hbs, hbm⟩ := hF
  have hwm : ∀ x y, x < y → y < cnt wh S → wf x < wf y := fun x y hxy hy => by
    have h1 := hwf x (by omega)
    have h2 := hwf y hy
    rcases Nat.lt_trichotomy (wf x) (wf y) with z | z | z
    · exact z
    · rw [z, h2.2.2] at h1; omega
    · have := cnt_lt h2.2.1 z; omega
  have hinc : ∀ y, inc (cnt wh S) k y → inc 12 k (fun j => wf (y j)) := fun y hy => ⟨fun j hj => hwm _ _ (hy.1 j hj) (hy.2 _ (by omega)), fun j hj => Nat.lt_of_lt_of_le (hwf _ (hy.2 j hj)).1 hS⟩
  have hsum : ∀ y X, inc (cnt wh S) k y → (∀ s, Nat.testBit X s = true ↔ ∃ j, j < k ∧ wf (y j) = s) → sumP lr cs wf k N y = smX lr cs S N X := fun y X hy hX => smQ_congr (fun i hi => ⟨rfl, fun _ => mn_lf (c := fun s => cs s i) (p := fun j => wf (y j)) hk hX (fun j hj => ⟨(hwf _ (hy.2 j hj)).1, hcs _ (hwf _ (hy.2 j hj)).1 (hwf _ (hy.2 j hj)).2.1 i hi⟩)⟩)
  -- the class's set
  have hXb : ∀ s, Nat.testBit (bitsN (prt (fun j => wf (b j)) k) 12) s = true ↔ ∃ j, j < k ∧ wf (b j) = s := fun s => by
    rw [al_bit, prt_iff]
    exact ⟨fun h => h.2, fun h => ⟨by obtain ⟨j, h1, h2⟩ := h; rw [← h2]; exact (hinc b hbi).2 j h1, h⟩⟩
  have hX4 : bitsN (prt (fun j => wf (b j)) k) 12 < 4096 := bitsN_lt _ 12
  have hXc : cnX (bitsN wh S) k (bitsN (prt (fun j => wf (b j)) k) 12) := by
    refine ⟨sub_iff.mpr (fun s hs => ?_), ?_⟩
    · obtain ⟨j, h1, h2⟩ := (hXb s).mp hs
      have h3 := hwf _ (hbi.2 j h1)
      rw [← h2]
      exact al_bit.mpr ⟨h3.1, h3.2.1⟩
    · rw [cnt_congr (fun j hj => bitsN_bit (prt (fun j => wf (b j)) k) 12 j hj)]
      exact cnt_prt (hinc b hbi) 12 k (Nat.le_refl _) (fun i hi => (hinc b hbi).2 i hi) (fun i h1 h2 => by omega)
  -- the model's set, by places
  have hen : ∀ j, ∃ e, j < k → e < 12 ∧ Nat.testBit B e = true ∧ cnt (Nat.testBit B) e = j := fun j => by
    by_cases hj : j < k
    · obtain ⟨i, h1, h2, h3, h4⟩ := fil_in (Nat.testBit B) (fun _ => 0) 12 j (by rw [hBc.2]; exact hj)
      exact ⟨i, fun _ => ⟨h1, h2, h4⟩⟩
    · exact ⟨0, fun h => absurd h hj⟩
  obtain ⟨e, he⟩ : ∃ e : Nat → Nat, ∀ j, j < k → e j < 12 ∧ Nat.testBit B (e j) = true ∧ cnt (Nat.testBit B) (e j) = j := ⟨fun j => (hen j).choose, fun j hj => (hen j).choose_spec hj⟩
  have hew : ∀ j, j < k → e j < S ∧ wh (e j) = true := fun j hj => al_bit.mp (sub_iff.mp hBc.1 _ (he j hj).2.1)
  have hwe : ∀ j, j < k → wf (cnt wh (e j)) = e j := fun j hj => by
    have h1 := hwf (cnt wh (e j)) (cnt_lt (hew j hj).2 (hew j hj).1)
    exact cnt_inj h1.2.1 (hew j hj).2 h1.2.2
  have hyi : inc (cnt wh S) k (fun j => cnt wh (e j)) := ⟨fun j hj => by
    have h1 := he j (by omega)
    have h2 := he (j + 1) hj
    have h3 : e j < e (j + 1) := by
      rcases Nat.lt_or_ge (e j) (e (j + 1)) with z | z
      · exact z
      · have := cnt_mono (Nat.testBit B) z; omega
    exact cnt_lt (hew j (by omega)).2 h3, fun j hj => cnt_lt (hew j hj).2 (hew j hj).1⟩
  have hBb : ∀ s, Nat.testBit B s = true ↔ ∃ j, j < k ∧ wf (cnt wh (e j)) = s := fun s => by
    constructor
    · intro hs
      have h12 := bit_hi hB hs
      have hjk : cnt (Nat.testBit B) s < k := by rw [← hBc.2]; exact cnt_lt hs h12
      refine ⟨cnt (Nat.testBit B) s, hjk, ?_⟩
      rw [hwe _ hjk]
      exact cnt_inj (he _ hjk).2.1 hs (he _ hjk).2.2
    · rintro ⟨j, h1, h2⟩
      rw [← h2, hwe j h1]
      exact (he j h1).2.1
  have hsB := hsum _ B hyi hBb
  have hsX := hsum b _ hbi hXb
  have hy := hbm _ hyi
  have hle : least ≤ smX lr cs S N B := by rw [← hsB]; exact hy.1
  have hX : smX lr cs S N (bitsN (prt (fun j => wf (b j)) k) 12) = least := by rw [← hsX]; exact hbs
  rcases hBm _ hX4 hXc with h | ⟨h1, h2⟩
  · rw [hX] at h
    exact absurd hle (Int32.not_le.mpr h)
  · rw [hX] at h1
    refine ⟨h1, fun j hj => ?_⟩
    have hnl := hy.2 (by rw [hsB]; exact h1)
    have heq : eqK k (fun j => cnt wh (e j)) b := by
      rcases lexF_tri (fun j => cnt wh (e j)) b k with q | q | q
      · exact absurd q hnl
      · exact q
      · obtain ⟨d, d1, d2, d3⟩ := q
        have hlx : lexF k (fun j => wf (b j)) (fun j => wf (cnt wh (e j))) := ⟨d, d1, fun i hi => congrArg wf (d2 i hi), hwm _ _ d3 (hyi.2 d d1)⟩
        have hr := lex_rc (hinc b hbi) (hinc _ hyi) hlx (n := 12) (Nat.le_refl _)
        have r1 : rcF (prt (fun j => wf (cnt wh (e j))) k) 12 = rcF (Nat.testBit B) 12 := rcF_congr (fun s _ => by
          cases hq : Nat.testBit B s with
          | true => exact prt_iff.mpr ((hBb s).mp hq)
          | false =>
            cases hq2 : prt (fun j => wf (cnt wh (e j))) k s with
            | false => rfl
            | true => rw [(hBb s).mpr (prt_iff.mp hq2)] at hq; cases hq)
        have r2 : rcF (prt (fun j => wf (b j)) k) 12 = rcF (Nat.testBit (bitsN (prt (fun j => wf (b j)) k) 12)) 12 := rcF_congr (fun s hs => (bitsN_bit _ 12 s hs).symm)
        rw [r1, r2] at hr
        omega
    have hej : e j = wf (b j) := by rw [← hwe j hj]; exact congrArg wf (heq j hj)
    rw [← hej]
    unfold kth
    refine find_up (he j hj).1 (by simp [(he j hj).2.1]; exact (he j hj).2.2) (fun i hi => ?_)
    cases hq : Nat.testBit B i with
    | false => simp [hq]
    | true =>
      have hc : ¬ cnt (fun s => Nat.testBit B s) i = j := fun z => by
        have := cnt_inj (b := Nat.testBit B) hq (he j hj).2.1 (z.trans (he j hj).2.2.symm)
        omega
      simp [hc]
theorem pf_ex {wh : Nat → Bool} {S k : Nat} {wf b : Nat → Nat} (hS : S ≤ 12) (hwf : ∀ x, x < cnt wh S → wf x < S ∧ wh (wf x) = true ∧ cnt wh (wf x) = x) (hbi : inc (cnt wh S) k b) : ∃ Y, Y < 4096 ∧ cnX (bitsN wh S) k Y := by
  have hwm : ∀ x y, x < y → y < cnt wh S → wf x < wf y := fun x y hxy hy => by
    have h1 := hwf x (by omega)
    have h2 := hwf y hy
    rcases Nat.lt_trichotomy (wf x) (wf y) with z | z | z
    · exact z
    · rw [z, h2.2.2] at h1; omega
    · have := cnt_lt h2.2.1 z; omega
  have hinc : inc 12 k (fun j => wf (b j)) := ⟨fun j hj => hwm _ _ (hbi.1 j hj) (hbi.2 _ (by omega)), fun j hj => Nat.lt_of_lt_of_le (hwf _ (hbi.2 j hj)).1 hS⟩
  refine ⟨bitsN (prt (fun j => wf (b j)) k) 12, bitsN_lt _ 12, sub_iff.mpr (fun s hs => ?_), ?_⟩
  · obtain ⟨j, h1, h2⟩ := prt_iff.mp (al_bit.mp hs).2
    have h3 := hwf _ (hbi.2 j h1)
    rw [← h2]
    exact al_bit.mpr ⟨h3.1, h3.2.1⟩
  · rw [cnt_congr (fun j hj => bitsN_bit (prt (fun j => wf (b j)) k) 12 j hj)]
    exact cnt_prt hinc 12 k (Nat.le_refl _) (fun i hi => hinc.2 i hi) (fun i h1 h2 => by omega)
theorem al_cnt {wh : Nat → Bool} {S : Nat} (hS : S ≤ 12) : cnt (bitsN wh S).testBit 12 = cnt wh S := by
  rw [cnt_beyond (n := S) (fun i hi => fun z => by have := (al_bit.mp z).1; omega) 12 hS]
  exact cnt_congr (fun j hj => bitsN_bit wh S j hj)
theorem al_0 {wh : Nat → Bool} {S : Nat} : bitsN wh S = 0 ↔ cnt wh S = 0 := by
  constructor
  · intro h
    rcases Nat.eq_zero_or_pos (cnt wh S) with z | z
    · exact z
    · obtain ⟨s, h1, h2⟩ := cnt_pos z
      have := al_bit.mpr ⟨h1, h2⟩
      rw [h, Nat.zero_testBit] at this
      cases this
  · intro h
    refine Classical.byContradiction (fun hn => ?_)
    obtain ⟨s, h1, h2⟩ := bits_ex hn
    have := cnt_lt h2 h1
    omega
