/-! sets of k places, in their order -/
def inc (m k : Nat) (p : Nat → Nat) : Prop := (∀ j, j + 1 < k → p j < p (j + 1)) ∧ (∀ j, j < k → p j < m)
theorem inc.gap {m k : Nat} {p : Nat → Nat} (h : inc m k p) {i : Nat} : ∀ {j : Nat}, i ≤ j → j < k → p i + (j - i) ≤ p j
  | 0, h1, h2 => by rw [show i = 0 by omega]; simp
  | j + 1, h1, h2 => by
    rcases Nat.lt_or_ge i (j + 1) with q | q
    · have := inc.gap h (i := i) (j := j) (by omega) (by omega)
      have := h.1 j h2
      omega
    · rw [show i = j + 1 by omega]; simp
theorem inc.lt {m k : Nat} {p : Nat → Nat} (h : inc m k p) {i j : Nat} (h1 : i < j) (h2 : j < k) : p i < p j := by
  have := h.gap (i := i) (j := j) (by omega) h2
  omega
theorem inc.top {m k : Nat} {p : Nat → Nat} (h : inc m k p) {j : Nat} (hj : j < k) : p j + (k - j) ≤ m := by
  have h1 := h.gap (i := j) (j := k - 1) (by omega) (by omega)
  have h2 := h.2 (k - 1) (by omega)
  omega
def lexF (k : Nat) (y p : Nat → Nat) : Prop := ∃ d, d < k ∧ (∀ j, j < d → y j = p j) ∧ y d < p d
def eqK (k : Nat) (y p : Nat → Nat) : Prop := ∀ j, j < k → y j = p j
theorem lexF_tri (y p : Nat → Nat) : ∀ k, lexF k y p ∨ eqK k y p ∨ lexF k p y
  | 0 => Or.inr (Or.inl (fun j hj => by omega))
  | k + 1 => by
    rcases lexF_tri y p k with ⟨d, h1, h2, h3⟩ | h | ⟨d, h1, h2, h3⟩
    · exact Or.inl ⟨d, by omega, h2, h3⟩
    · rcases Nat.lt_trichotomy (y k) (p k) with q | q | q
      · exact Or.inl ⟨k, by omega, h, q⟩
      · refine Or.inr (Or.inl (fun j hj => ?_))
        rcases Nat.lt_or_ge j k with z | z
        · exact h j z
        · rw [show j = k by omega]; exact q
      · exact Or.inr (Or.inr ⟨k, by omega, fun j hj => (h j hj).symm, q⟩)
    · exact Or.inr (Or.inr ⟨d, by omega, h2, h3⟩)
theorem lexF_asym {k : Nat} {y p : Nat → Nat} (h : lexF k y p) (h2 : lexF k p y) : False := by
  obtain ⟨d, a1, a2, a3⟩ := h
  obtain ⟨e, b1, b2, b3⟩ := h2
  rcases Nat.lt_trichotomy d e with q | q | q
  · have := b2 d q; omega
  · subst q; omega
  · have := a2 e q; omega
theorem lexF_eq {k : Nat} {y p : Nat → Nat} (h : eqK k y p) (h2 : lexF k y p) : False := by
  obtain ⟨d, a1, a2, a3⟩ := h2
  have := h d a1
  omega
theorem lexF_eql {k : Nat} {y z p : Nat → Nat} (h : eqK k y z) (h2 : lexF k z p) : lexF k y p := by
  obtain ⟨d, a1, a2, a3⟩ := h2
  exact ⟨d, a1, fun j hj => (h j (by omega)).trans (a2 j hj), by rw [h d a1]; exact a3⟩
theorem lexF_eqr {k : Nat} {y z p : Nat → Nat} (h : eqK k z p) (h2 : lexF k y z) : lexF k y p := by
  obtain ⟨d, a1, a2, a3⟩ := h2
  exact ⟨d, a1, fun j hj => (a2 j hj).trans (h j (by omega)), by rw [← h d a1]; exact a3⟩
theorem eqK_symm {k : Nat} {y p : Nat → Nat} (h : eqK k y p) : eqK k p y := fun j hj => (h j hj).symm
theorem lexF_tr {k : Nat} {x y z : Nat → Nat} (h : lexF k x y) (h2 : lexF k y z) : lexF k x z := by
  obtain ⟨d, a1, a2, a3⟩ := h
  obtain ⟨e, b1, b2, b3⟩ := h2
  rcases Nat.lt_trichotomy d e with q | q | q
  · exact ⟨d, a1, fun j hj => (a2 j hj).trans (b2 j (by omega)), by rw [← b2 d q]; exact a3⟩
  · subst q; exact ⟨d, a1, fun j hj => (a2 j hj).trans (b2 j hj), by omega⟩
  · exact ⟨e, b1, fun j hj => (a2 j (by omega)).trans (b2 j hj), by rw [a2 e q]; exact b3⟩
def nxt (p : Nat → Nat) (d : Nat) : Nat → Nat := fun j => if j < d then p j else p d + 1 + (j - d)
theorem nxt_lo {p : Nat → Nat} {d j : Nat} (h : j < d) : nxt p d j = p j := if_pos h
theorem nxt_hi {p : Nat → Nat} {d j : Nat} (h : d ≤ j) : nxt p d j = p d + 1 + (j - d) := if_neg (by omega)
theorem nxt_inc {m k : Nat} {p : Nat → Nat} {d : Nat} (h : inc m k p) (hd : d < k) (hr : p d + (k - d) < m) : inc m k (nxt p d) := by
  refine ⟨fun j hj => ?_, fun j hj => ?_⟩
  · rcases Nat.lt_trichotomy (j + 1) d with q | q | q
    · rw [nxt_lo (by omega), nxt_lo q]; exact h.1 j hj
    · rw [nxt_lo (by omega), nxt_hi (by omega)]
      have := h.1 j hj
      rw [q] at this ⊢
      omega
    · rw [nxt_hi (by omega), nxt_hi (by omega)]; omega
  · rcases Nat.lt_or_ge j d with q | q
    · rw [nxt_lo q]; exact h.2 j hj
    · rw [nxt_hi q]; omega
theorem lex_nxt {k : Nat} {p : Nat → Nat} {d : Nat} (hd : d < k) : lexF k p (nxt p d) := ⟨d, hd, fun j hj => (nxt_lo hj).symm, by rw [nxt_hi (Nat.le_refl d)]; omega⟩
theorem nxt_succ {m k : Nat} {p y : Nat → Nat} {d : Nat} (hp : inc m k p) (hy : inc m k y) (hd : d < k) (hno : ∀ j, d < j → j < k → m ≤ p j + (k - j)) (h : lexF k p y) : ¬ lexF k y (nxt p d) := by
  rintro ⟨e2, c1, c2, c3⟩
  obtain ⟨e, a1, a2, a3⟩ := h
  have hed : e ≤ d := by
    rcases Nat.lt_or_ge d e with q | q
    · have h1 := hno e q a1
      have h2 := hy.top a1
      omega
    · exact q
  rcases Nat.lt_trichotomy e2 e with q | q | q
  · rw [nxt_lo (by omega)] at c3
    have := a2 e2 q
    omega
  · subst q
    rcases Nat.lt_or_ge e2 d with z | z
    · rw [nxt_lo z] at c3; omega
    · rw [nxt_hi z] at c3
      rw [show e2 = d by omega] at c3 a3
      omega
  · have h5 := c2 e q
    rcases Nat.lt_or_ge e d with z | z
    · rw [nxt_lo z] at h5; omega
    · have hed2 : e = d := by omega
      subst hed2
      rw [nxt_hi (Nat.le_refl e)] at h5
      rw [nxt_hi (by omega)] at c3
      have := hy.gap (i := e) (j := e2) (by omega) c1
      omega
theorem nxt_last {m k : Nat} {p y : Nat → Nat} (hy : inc m k y) (hno : ∀ j, j < k → m ≤ p j + (k - j)) : ¬ lexF k p y := by
  rintro ⟨e, a1, a2, a3⟩
  have h1 := hno e a1
  have h2 := hy.top a1
  omega
/-! a set's number: those with lesser members have the greater one -/
def rcF (X : Nat → Bool) : Nat → Nat
  | 0 => 0
  | n + 1 => 2 * rcF X n + (if X n = true then 1 else 0)
theorem rcF_lt (X : Nat → Bool) : ∀ n, rcF X n < 2 ^ n
  | 0 => by simp [rcF]
  | n + 1 => by
    have := rcF_lt X n
    simp only [rcF]
    rw [Nat.pow_succ]
    split <;> omega
theorem rcF_congr {X Y : Nat → Bool} : ∀ {n : Nat}, (∀ j, j < n → X j = Y j) → rcF X n = rcF Y n
  | 0, _ => rfl
  | n + 1, h => by simp only [rcF]; rw [rcF_congr (n := n) (fun j hj => h j (by omega)), h n (by omega)]
theorem rcF_less {X Y : Nat → Bool} {t : Nat} (h : ∀ j, j < t → X j = Y j) (hX : X t = true) (hY : Y t = false) : ∀ {n : Nat}, t < n → rcF Y n < rcF X n
  | 0, hn => by omega
  | n + 1, hn => by
    simp only [rcF]
    rcases Nat.lt_or_ge t n with q | q
    · have := rcF_less h hX hY (n := n) q
      split <;> split <;> omega
    · have e : t = n := by omega
      subst e
      rw [rcF_congr h, hX, hY]
      simp
theorem rcF_inj {X Y : Nat → Bool} : ∀ {n : Nat}, rcF X n = rcF Y n → ∀ j, j < n → X j = Y j
  | 0, _, j, hj => by omega
  | n + 1, h, j, hj => by
    simp only [rcF] at h
    have h1 : rcF X n = rcF Y n := by split at h <;> split at h <;> omega
    have h2 : X n = Y n := by
      cases hx : X n <;> cases hy : Y n <;> simp_all
    rcases Nat.lt_or_ge j n with q | q
    · exact rcF_inj h1 j q
    · rw [show j = n by omega]; exact h2
def prt (p : Nat → Nat) (k x : Nat) : Bool := (List.range k).any (fun j => decide (p j = x))
theorem prt_iff {p : Nat → Nat} {k x : Nat} : prt p k x = true ↔ ∃ j, j < k ∧ p j = x := by
  unfold prt
  rw [List.any_eq_true]
  constructor
  · rintro ⟨j, h1, h2⟩; exact ⟨j, List.mem_range.mp h1, of_decide_eq_true h2⟩
  · rintro ⟨j, h1, h2⟩; exact ⟨j, List.mem_range.mpr h1, decide_eq_true h2⟩
theorem lex_rc {m k : Nat} {p q : Nat → Nat} (hp : inc m k p) (hq : inc m k q) (h : lexF k p q) {n : Nat} (hn : m ≤ n) : rcF (prt q k) n < rcF (prt p k) n := by
  obtain ⟨d, a1, a2, a3⟩ := h
  refine rcF_less (t := p d) (fun x hx => ?_) (prt_iff.mpr ⟨d, a1, rfl⟩) ?_ (by have := hp.2 d a1; omega)
  · have key : ∀ {u : Nat → Nat}, inc m k u → (∀ j, j < d → u j = p j) → p d ≤ u d → (prt u k x = true ↔ ∃ j, j < d ∧ p j = x) := by
      intro u hu he hge
      rw [prt_iff]
      constructor
      · rintro ⟨j, h1, h2⟩
        rcases Nat.lt_or_ge j d with z | z
        · exact ⟨j, z, by rw [← he j z]; exact h2⟩
        · have := hu.gap z h1
          omega
      · rintro ⟨j, h1, h2⟩
        exact ⟨j, by omega, by rw [he j h1]; exact h2⟩
    have k1 := key hp (fun _ _ => rfl) (Nat.le_refl _)
    have k2 := key hq (fun j hj => (a2 j hj).symm) (by omega)
    cases h1 : prt p k x <;> cases h2 : prt q k x <;> simp_all
  · cases h1 : prt q k (p d) with
    | false => rfl
    | true =>
      obtain ⟨j, b1, b2⟩ := prt_iff.mp h1
      rcases Nat.lt_or_ge j d with z | z
      · have e1 := a2 j z
        have e2 := hp.lt z a1
        omega
      · have := hq.gap z b1
        omega
