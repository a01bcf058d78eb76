theorem nI_le0 {n : Nat} (h : n < 2 ^ 31) : nI n ≤ 0 ↔ n = 0 := by
  rw [show (0 : Int32) = nI 0 from rfl, nI_leI h (by decide)]
  omega
theorem nI_lt0 {n : Nat} (h : n < 2 ^ 31) : nI n < 0 ↔ False := ⟨fun q => nI_pos h q, False.elim⟩
theorem nI_0le {n : Nat} (h : n < 2 ^ 31) : 0 ≤ nI n ↔ True := ⟨fun _ => trivial, fun _ => nI_pos' h⟩
theorem nI_pred1 {n : Nat} (h : 0 < n) : nI n - 1 = nI (n - 1) := by
  obtain ⟨k, rfl⟩ : ∃ k, n = k + 1 := ⟨n - 1, by omega⟩
  rw [Nat.add_sub_cancel]
  exact nI_pred k
/-- the table: S settings, N instances -/
def Tb (μ : am_M) (S N : Nat) : Prop := mm_I μ 2 4 = nI S ∧ mm_I μ 2 5 = nI N ∧ S ≤ 12 ∧ N ≤ 24
theorem Tb.s {μ : am_M} {S N : Nat} (h : Tb μ S N) : S ≤ 12 := h.2.2.1
theorem Tb.n {μ : am_M} {S N : Nat} (h : Tb μ S N) : N ≤ 24 := h.2.2.2
def in0 (x : Int32) (n : Nat) : Prop := 0 ≤ x ∧ x < nI n
theorem in0_of {x : Int32} {n : Nat} (h : in0 x n) (hn : n < 2 ^ 31) : ∃ j, j < n ∧ x = nI j := nI_rg (Int32.not_lt.mpr h.1) h.2 hn
theorem in0_nI {j n : Nat} (hj : j < 2 ^ 31) (hn : n < 2 ^ 31) : in0 (nI j) n ↔ j < n := by
  unfold in0
  rw [nI_ltI hj hn]
  exact ⟨fun h => h.2, fun h => ⟨nI_pos' hj, h⟩⟩
abbrev bI (x : Int32) (n : Nat) : Int32 := bz (0 ≤ x ∧ x < nI n)
set_option maxRecDepth 100000 in
set_option maxHeartbeats 4000000 in
theorem ct_X6_isWithin {E : am_E} {μ : am_M} (hb : Bs μ) (x lo hi : Int32) : am_Ct E yX6_isWithin cX6_isWithin 3 (some .boolean) rmX6_isWithin [.int x, .int lo, .int hi] μ (fun v μ' => v = some (.int (bz (lo ≤ x ∧ x ≤ hi))) ∧ μ = μ') := by
  refine am_Ct.of (ls := [some (.int x), some (.int lo), some (.int hi)]) (by decide) (Nat.le_of_ble_eq_true rfl) rfl (fun C fx hnm => ?_)
  refine am_iload_n fx dX6_isWithin_0 rfl ?_
  refine am_iload_n fx dX6_isWithin_1 rfl ?_
  refine am_icmp_lt fx 14 dX6_isWithin_2 (by decide) (fun c2 => ?_) (fun c2 => ?_)
  · try simp (disch := omega) only [bz_0, Classical.not_not, Int32.not_le, Int32.not_lt, Nat.not_le, Nat.not_lt, nI_leI, nI_ltI, nI_eq, nI_le0, nI_lt0] at c2
    refine am_iconst (v := 0) fx dX6_isWithin_14 (by decide) ?_
    exact am_zret fx dX6_isWithin_15 (by first | exact Or.inl rfl | exact Or.inr rfl | exact bz_01) ⟨congrArg (fun z => some (Value.int z)) (by first | exact bz_t ⟨c2, c7⟩ | exact bz_f (fun h => absurd h.1 (Int32.not_le.mpr c2)) | exact bz_f (fun h => absurd h.2 (Int32.not_le.mpr c7))), rfl⟩
  · try simp (disch := omega) only [bz_0, Classical.not_not, Int32.not_le, Int32.not_lt, Nat.not_le, Nat.not_lt, nI_leI, nI_ltI, nI_eq, nI_le0, nI_lt0] at c2
    refine am_iload_n fx dX6_isWithin_5 rfl ?_
    refine am_iload_n fx dX6_isWithin_6 rfl ?_
    refine am_icmp_gt fx 14 dX6_isWithin_7 (by decide) (fun c7 => ?_) (fun c7 => ?_)
    · try simp (disch := omega) only [bz_0, Classical.not_not, Int32.not_le, Int32.not_lt, Nat.not_le, Nat.not_lt, nI_leI, nI_ltI, nI_eq, nI_le0, nI_lt0] at c7
      refine am_iconst (v := 0) fx dX6_isWithin_14 (by decide) ?_
      exact am_zret fx dX6_isWithin_15 (by first | exact Or.inl rfl | exact Or.inr rfl | exact bz_01) ⟨congrArg (fun z => some (Value.int z)) (by first | exact bz_t ⟨c2, c7⟩ | exact bz_f (fun h => absurd h.1 (Int32.not_le.mpr c2)) | exact bz_f (fun h => absurd h.2 (Int32.not_le.mpr c7))), rfl⟩
    · try simp (disch := omega) only [bz_0, Classical.not_not, Int32.not_le, Int32.not_lt, Nat.not_le, Nat.not_lt, nI_leI, nI_ltI, nI_eq, nI_le0, nI_lt0] at c7
      refine am_iconst (v := 1) fx dX6_isWithin_10 (by decide) ?_
      refine am_goto fx 15 dX6_isWithin_11 (by decide) ?_
      exact am_zret fx dX6_isWithin_15 (by first | exact Or.inl rfl | exact Or.inr rfl | exact bz_01) ⟨congrArg (fun z => some (Value.int z)) (by first | exact bz_t ⟨c2, c7⟩ | exact bz_f (fun h => absurd h.1 (Int32.not_le.mpr c2)) | exact bz_f (fun h => absurd h.2 (Int32.not_le.mpr c7))), rfl⟩
set_option maxRecDepth 100000 in
set_option maxHeartbeats 4000000 in
theorem ct_X5_hasSetting {E : am_E} {μ : am_M} (hb : Bs μ) {S N : Nat} (ht : Tb μ S N) (x : Int32) : am_Ct E yX5_hasSetting cX5_hasSetting 2 (some .boolean) rmX5_hasSetting [.ref 2, .int x] μ (fun v μ' => v = some (.int (bz (0 ≤ x ∧ x < nI S))) ∧ μ = μ') := by
  refine am_Ct.of (ls := [some (.ref 2), some (.int x)]) (by decide) (Nat.le_of_ble_eq_true rfl) rfl (fun C fx hnm => ?_)
  refine am_iload_n fx dX5_hasSetting_0 rfl ?_
  refine am_if_lt fx 16 dX5_hasSetting_1 (by decide) (fun c1 => ?_) (fun c1 => ?_)
  · try simp (disch := omega) only [bz_0, Classical.not_not, Int32.not_le, Int32.not_lt, Nat.not_le, Nat.not_lt, nI_leI, nI_ltI, nI_eq, nI_le0, nI_lt0] at c1
    refine am_iconst (v := 0) fx dX5_hasSetting_16 (by decide) ?_
    exact am_zret fx dX5_hasSetting_17 (by first | exact Or.inl rfl | exact Or.inr rfl | exact bz_01) ⟨congrArg (fun z => some (Value.int z)) (by first | exact bz_t ⟨c1, c9⟩ | exact bz_f (fun h => absurd h.1 (Int32.not_le.mpr c1)) | exact bz_f (fun h => absurd h.2 (Int32.not_lt.mpr c9))), rfl⟩
  · try simp (disch := omega) only [bz_0, Classical.not_not, Int32.not_le, Int32.not_lt, Nat.not_le, Nat.not_lt, nI_leI, nI_ltI, nI_eq, nI_le0, nI_lt0] at c1
    refine am_iload_n fx dX5_hasSetting_4 rfl ?_
    refine am_aload_n fx dX5_hasSetting_5 rfl ?_
    refine am_getI fx dX5_hasSetting_6 fkX5_27 (by decide) (by decide) rfl (so5 hb) ht.1 ?_
    refine am_icmp_ge fx 16 dX5_hasSetting_9 (by decide) (fun c9 => ?_) (fun c9 => ?_)
    · try simp (disch := omega) only [bz_0, Classical.not_not, Int32.not_le, Int32.not_lt, Nat.not_le, Nat.not_lt, nI_leI, nI_ltI, nI_eq, nI_le0, nI_lt0] at c9
      refine am_iconst (v := 0) fx dX5_hasSetting_16 (by decide) ?_
      exact am_zret fx dX5_hasSetting_17 (by first | exact Or.inl rfl | exact Or.inr rfl | exact bz_01) ⟨congrArg (fun z => some (Value.int z)) (by first | exact bz_t ⟨c1, c9⟩ | exact bz_f (fun h => absurd h.1 (Int32.not_le.mpr c1)) | exact bz_f (fun h => absurd h.2 (Int32.not_lt.mpr c9))), rfl⟩
    · try simp (disch := omega) only [bz_0, Classical.not_not, Int32.not_le, Int32.not_lt, Nat.not_le, Nat.not_lt, nI_leI, nI_ltI, nI_eq, nI_le0, nI_lt0] at c9
      refine am_iconst (v := 1) fx dX5_hasSetting_12 (by decide) ?_
      refine am_goto fx 17 dX5_hasSetting_13 (by decide) ?_
      exact am_zret fx dX5_hasSetting_17 (by first | exact Or.inl rfl | exact Or.inr rfl | exact bz_01) ⟨congrArg (fun z => some (Value.int z)) (by first | exact bz_t ⟨c1, c9⟩ | exact bz_f (fun h => absurd h.1 (Int32.not_le.mpr c1)) | exact bz_f (fun h => absurd h.2 (Int32.not_lt.mpr c9))), rfl⟩
set_option maxRecDepth 100000 in
set_option maxHeartbeats 4000000 in
theorem ct_X5_hasInstance {E : am_E} {μ : am_M} (hb : Bs μ) {S N : Nat} (ht : Tb μ S N) (x : Int32) : am_Ct E yX5_hasInstance cX5_hasInstance 2 (some .boolean) rmX5_hasInstance [.ref 2, .int x] μ (fun v μ' => v = some (.int (bz (0 ≤ x ∧ x < nI N))) ∧ μ = μ') := by
  refine am_Ct.of (ls := [some (.ref 2), some (.int x)]) (by decide) (Nat.le_of_ble_eq_true rfl) rfl (fun C fx hnm => ?_)
  refine am_iload_n fx dX5_hasInstance_0 rfl ?_
  refine am_if_lt fx 16 dX5_hasInstance_1 (by decide) (fun c1 => ?_) (fun c1 => ?_)
  · try simp (disch := omega) only [bz_0, Classical.not_not, Int32.not_le, Int32.not_lt, Nat.not_le, Nat.not_lt, nI_leI, nI_ltI, nI_eq, nI_le0, nI_lt0] at c1
    refine am_iconst (v := 0) fx dX5_hasInstance_16 (by decide) ?_
    exact am_zret fx dX5_hasInstance_17 (by first | exact Or.inl rfl | exact Or.inr rfl | exact bz_01) ⟨congrArg (fun z => some (Value.int z)) (by first | exact bz_t ⟨c1, c9⟩ | exact bz_f (fun h => absurd h.1 (Int32.not_le.mpr c1)) | exact bz_f (fun h => absurd h.2 (Int32.not_lt.mpr c9))), rfl⟩
  · try simp (disch := omega) only [bz_0, Classical.not_not, Int32.not_le, Int32.not_lt, Nat.not_le, Nat.not_lt, nI_leI, nI_ltI, nI_eq, nI_le0, nI_lt0] at c1
    refine am_iload_n fx dX5_hasInstance_4 rfl ?_
    refine am_aload_n fx dX5_hasInstance_5 rfl ?_
    refine am_getI fx dX5_hasInstance_6 fkX5_31 (by decide) (by decide) rfl (so5 hb) ht.2.1 ?_
    refine am_icmp_ge fx 16 dX5_hasInstance_9 (by decide) (fun c9 => ?_) (fun c9 => ?_)
    · try simp (disch := omega) only [bz_0, Classical.not_not, Int32.not_le, Int32.not_lt, Nat.not_le, Nat.not_lt, nI_leI, nI_ltI, nI_eq, nI_le0, nI_lt0] at c9
      refine am_iconst (v := 0) fx dX5_hasInstance_16 (by decide) ?_
      exact am_zret fx dX5_hasInstance_17 (by first | exact Or.inl rfl | exact Or.inr rfl | exact bz_01) ⟨congrArg (fun z => some (Value.int z)) (by first | exact bz_t ⟨c1, c9⟩ | exact bz_f (fun h => absurd h.1 (Int32.not_le.mpr c1)) | exact bz_f (fun h => absurd h.2 (Int32.not_lt.mpr c9))), rfl⟩
    · try simp (disch := omega) only [bz_0, Classical.not_not, Int32.not_le, Int32.not_lt, Nat.not_le, Nat.not_lt, nI_leI, nI_ltI, nI_eq, nI_le0, nI_lt0] at c9
      refine am_iconst (v := 1) fx dX5_hasInstance_12 (by decide) ?_
      refine am_goto fx 17 dX5_hasInstance_13 (by decide) ?_
      exact am_zret fx dX5_hasInstance_17 (by first | exact Or.inl rfl | exact Or.inr rfl | exact bz_01) ⟨congrArg (fun z => some (Value.int z)) (by first | exact bz_t ⟨c1, c9⟩ | exact bz_f (fun h => absurd h.1 (Int32.not_le.mpr c1)) | exact bz_f (fun h => absurd h.2 (Int32.not_lt.mpr c9))), rfl⟩
def co (μ : am_M) (S N : Nat) (s i : Int32) : Int32 := if (0 ≤ s ∧ s < nI S) ∧ (0 ≤ i ∧ i < nI N) then mm_I μ (4 + s.toNatClampNeg) i.toNatClampNeg else -1
theorem co_in {μ : am_M} {S N s i : Nat} (hs : s < S) (hi : i < N) (hS : S ≤ 12) (hN : N ≤ 24) : co μ S N (nI s) (nI i) = mm_I μ (4 + s) i := by
  unfold co
  rw [if_pos ⟨⟨nI_pos' (by omega), nI_lt hs (by omega)⟩, ⟨nI_pos' (by omega), nI_lt hi (by omega)⟩⟩, nI_clamp (by omega), nI_clamp (by omega)]
theorem nI_rg2 {x : Int32} {n : Nat} (h : 0 ≤ x ∧ x < nI n) (hn : n < 2 ^ 31) : ∃ j, j < n ∧ x = nI j := nI_rg (Int32.not_lt.mpr h.1) h.2 hn
set_option maxRecDepth 100000 in
set_option maxHeartbeats 4000000 in
theorem ct_X5_isLearning {E : am_E} {μ : am_M} (hb : Bs μ) {S N : Nat} (ht : Tb μ S N) (i : Nat) (hi : i < N) : am_Ct E yX5_isLearning cX5_isLearning 2 (some .boolean) rmX5_isLearning [.ref 2, .int (nI i)] μ (fun v μ' => v = some (.int (bz (¬ mm_I μ 20 i = 0))) ∧ μ = μ') := by
  refine am_Ct.of (ls := [some (.ref 2), some (.int (nI i))]) (by decide) (Nat.le_of_ble_eq_true rfl) rfl (fun C fx hnm => ?_)
  have hN := ht.n
  refine am_aload_n fx dX5_isLearning_0 rfl ?_
  refine am_iload_n fx dX5_isLearning_1 rfl ?_
  refine am_callV fx dX5_isLearning_2 mkX5_40 (ct_X5_hasInstance hb ht _) (so5 hb) ⟨by decide, rfl⟩ rfl (Nat.le_of_ble_eq_true rfl) ⟨by decide, by decide⟩ ⟨Nat.le_of_ble_eq_true rfl, Nat.le_of_ble_eq_true rfl⟩ rfl ?_
  rintro _ _ ⟨rfl, rfl⟩
  refine am_if_eq fx 21 dX5_isLearning_5 (by decide) (fun c5 => ?_) (fun c5 => ?_)
  · try simp (disch := omega) only [bz_0, Classical.not_not, Int32.not_le, Int32.not_lt, Nat.not_le, Nat.not_lt, nI_leI, nI_ltI, nI_eq, nI_le0, nI_lt0] at c5
    exact absurd ⟨nI_pos' (by omega), hi⟩ c5
  · try simp (disch := omega) only [bz_0, Classical.not_not, Int32.not_le, Int32.not_lt, Nat.not_le, Nat.not_lt, nI_leI, nI_ltI, nI_eq, nI_le0, nI_lt0] at c5
    refine am_aload_n fx dX5_isLearning_8 rfl ?_
    refine am_getR fx dX5_isLearning_9 fkX5_23 (by decide) (by decide) rfl (so5 hb) (rf5_3 hb) ?_
    refine am_iload_n fx dX5_isLearning_12 rfl ?_
    refine am_zald  fx dX5_isLearning_13 (sa5_3 hb) rfl (by omega) (by decide) rfl ?_
    refine am_if_eq fx 21 dX5_isLearning_14 (by decide) (fun c14 => ?_) (fun c14 => ?_)
    · try simp (disch := omega) only [bz_0, Classical.not_not, Int32.not_le, Int32.not_lt, Nat.not_le, Nat.not_lt, nI_leI, nI_ltI, nI_eq, nI_le0, nI_lt0] at c14
      refine am_iconst (v := 0) fx dX5_isLearning_21 (by decide) ?_
      exact am_zret fx dX5_isLearning_22 (by first | exact Or.inl rfl | exact Or.inr rfl | exact bz_01) ⟨congrArg (fun z => some (Value.int z)) (by first | exact bz_t c14 | exact bz_f (fun h => h c14)), rfl⟩
    · try simp (disch := omega) only [bz_0, Classical.not_not, Int32.not_le, Int32.not_lt, Nat.not_le, Nat.not_lt, nI_leI, nI_ltI, nI_eq, nI_le0, nI_lt0] at c14
      refine am_iconst (v := 1) fx dX5_isLearning_17 (by decide) ?_
      refine am_goto fx 22 dX5_isLearning_18 (by decide) ?_
      exact am_zret fx dX5_isLearning_22 (by first | exact Or.inl rfl | exact Or.inr rfl | exact bz_01) ⟨congrArg (fun z => some (Value.int z)) (by first | exact bz_t c14 | exact bz_f (fun h => h c14)), rfl⟩
set_option maxRecDepth 100000 in
set_option maxHeartbeats 4000000 in
theorem ct_X5_costAt {E : am_E} {μ : am_M} (hb : Bs μ) {S N : Nat} (ht : Tb μ S N) (s i : Int32) : am_Ct E yX5_costAt cX5_costAt 3 (some .int) rmX5_costAt [.ref 2, .int s, .int i] μ (fun v μ' => v = some (.int (co μ S N s i)) ∧ μ = μ') := by
  refine am_Ct.of (ls := [some (.ref 2), some (.int s), some (.int i)]) (by decide) (Nat.le_of_ble_eq_true rfl) rfl (fun C fx hnm => ?_)
  have hS := ht.s
  have hN := ht.n
  refine am_aload_n fx dX5_costAt_0 rfl ?_
  refine am_iload_n fx dX5_costAt_1 rfl ?_
  refine am_callV fx dX5_costAt_2 mkX5_44 (ct_X5_hasSetting hb ht _) (so5 hb) ⟨by decide, rfl⟩ rfl (Nat.le_of_ble_eq_true rfl) ⟨by decide, by decide⟩ ⟨Nat.le_of_ble_eq_true rfl, Nat.le_of_ble_eq_true rfl⟩ rfl ?_
  rintro _ _ ⟨rfl, rfl⟩
  refine am_if_eq fx 27 dX5_costAt_5 (by decide) (fun c5 => ?_) (fun c5 => ?_)
  · try simp (disch := omega) only [bz_0, Classical.not_not, Int32.not_le, Int32.not_lt, Nat.not_le, Nat.not_lt, nI_leI, nI_ltI, nI_eq, nI_le0, nI_lt0] at c5
    refine am_iconst (v := (-1)) fx dX5_costAt_27 (by decide) ?_
    exact am_iret fx dX5_costAt_28 ⟨congrArg (fun z => some (Value.int z)) (by first | exact (co_in hs hi hS hN).symm | exact (if_neg (fun h => c5 h.1)).symm | exact (if_neg (fun h => c13 h.2)).symm), rfl⟩
  · try simp (disch := omega) only [bz_0, Classical.not_not, Int32.not_le, Int32.not_lt, Nat.not_le, Nat.not_lt, nI_leI, nI_ltI, nI_eq, nI_le0, nI_lt0] at c5
    refine am_aload_n fx dX5_costAt_8 rfl ?_
    refine am_iload_n fx dX5_costAt_9 rfl ?_
    refine am_callV fx dX5_costAt_10 mkX5_40 (ct_X5_hasInstance hb ht _) (so5 hb) ⟨by decide, rfl⟩ rfl (Nat.le_of_ble_eq_true rfl) ⟨by decide, by decide⟩ ⟨Nat.le_of_ble_eq_true rfl, Nat.le_of_ble_eq_true rfl⟩ rfl ?_
    rintro _ _ ⟨rfl, rfl⟩
    refine am_if_eq fx 27 dX5_costAt_13 (by decide) (fun c13 => ?_) (fun c13 => ?_)
    · try simp (disch := omega) only [bz_0, Classical.not_not, Int32.not_le, Int32.not_lt, Nat.not_le, Nat.not_lt, nI_leI, nI_ltI, nI_eq, nI_le0, nI_lt0] at c13
      refine am_iconst (v := (-1)) fx dX5_costAt_27 (by decide) ?_
      exact am_iret fx dX5_costAt_28 ⟨congrArg (fun z => some (Value.int z)) (by first | exact (co_in hs hi hS hN).symm | exact (if_neg (fun h => c5 h.1)).symm | exact (if_neg (fun h => c13 h.2)).symm), rfl⟩
    · try simp (disch := omega) only [bz_0, Classical.not_not, Int32.not_le, Int32.not_lt, Nat.not_le, Nat.not_lt, nI_leI, nI_ltI, nI_eq, nI_le0, nI_lt0] at c13
      obtain ⟨s, hs, rfl⟩ := nI_rg2 c5 (by omega)
      obtain ⟨i, hi, rfl⟩ := nI_rg2 c13 (by omega)
      refine am_aload_n fx dX5_costAt_16 rfl ?_
      refine am_getR fx dX5_costAt_17 fkX5_11 (by decide) (by decide) rfl (so5 hb) (rf5_0 hb) ?_
      refine am_iload_n fx dX5_costAt_20 rfl ?_
      refine am_aald  fx dX5_costAt_21 (sa5_0 hb) rfl (by omega) (by decide) (rg5_0 hb (by omega)) ?_
      refine am_iload_n fx dX5_costAt_22 rfl ?_
      refine am_iald  fx dX5_costAt_23 (sg5_0 hb (by omega)) rfl (by omega) (by decide) rfl ?_
      refine am_goto fx 28 dX5_costAt_24 (by decide) ?_
      exact am_iret fx dX5_costAt_28 ⟨congrArg (fun z => some (Value.int z)) (by first | exact (co_in hs hi hS hN).symm | exact (if_neg (fun h => c5 h.1)).symm | exact (if_neg (fun h => c13 h.2)).symm), rfl⟩
set_option maxRecDepth 100000 in
set_option maxHeartbeats 4000000 in
theorem ct_X5_addSetting {E : am_E} {μ : am_M} (hb : Bs μ) {S N : Nat} (ht : Tb μ S N) : am_Ct E yX5_addSetting cX5_addSetting 1 (some .int) rmX5_addSetting [.ref 2] μ (fun v μ' => (S = 12 ∧ v = some (.int (-4)) ∧ μ' = μ) ∨ (S < 12 ∧ v = some (.int (nI S)) ∧ μ' = mm_sI μ 2 4 (nI (S + 1)))) := by
  refine am_Ct.of (ls := [some (.ref 2)]) (by decide) (Nat.le_of_ble_eq_true rfl) rfl (fun C fx hnm => ?_)
  have hS := ht.s
  refine am_aload_n fx dX5_addSetting_0 rfl ?_
  refine am_getI fx dX5_addSetting_1 fkX5_27 (by decide) (by decide) rfl (so5 hb) ht.1 ?_
  refine am_bipush (v := (nI 12)) fx dX5_addSetting_4 (by decide) ?_
  refine am_icmp_lt fx 12 dX5_addSetting_6 (by decide) (fun c6 => ?_) (fun c6 => ?_)
  · try simp (disch := omega) only [bz_0, Classical.not_not, Int32.not_le, Int32.not_lt, Nat.not_le, Nat.not_lt, nI_leI, nI_ltI, nI_eq, nI_le0, nI_lt0] at c6
    refine am_aload_n fx dX5_addSetting_12 rfl ?_
    refine am_dup_ref fx dX5_addSetting_13 ?_
    refine am_getI fx dX5_addSetting_14 fkX5_27 (by decide) (by decide) rfl (so5 hb) ht.1 ?_
    refine am_iconst (v := 1) fx dX5_addSetting_17 (by decide) ?_
    refine am_iadd fx dX5_addSetting_18 ?_
    refine am_topi (nI_1 S) ?_
    refine am_putI fx dX5_addSetting_19 fkX5_27 (by decide) (by decide) rfl rfl (so5 hb) ?_
    refine am_aload_n fx dX5_addSetting_22 rfl ?_
    refine am_getI fx dX5_addSetting_23 fkX5_27 (by decide) (by decide) rfl (so5 hb) (mI_same μ 2 4 _) ?_
    refine am_iconst (v := 1) fx dX5_addSetting_26 (by decide) ?_
    refine am_isub fx dX5_addSetting_27 ?_
    refine am_topi (nI_pred S) ?_
    exact am_iret fx dX5_addSetting_28 (Or.inr ⟨c6, rfl, rfl⟩)
  · try simp (disch := omega) only [bz_0, Classical.not_not, Int32.not_le, Int32.not_lt, Nat.not_le, Nat.not_lt, nI_leI, nI_ltI, nI_eq, nI_le0, nI_lt0] at c6
    refine am_bipush (v := (-4)) fx dX5_addSetting_9 (by decide) ?_
    exact am_iret fx dX5_addSetting_11 (Or.inl ⟨by omega, rfl, rfl⟩)
set_option maxRecDepth 100000 in
set_option maxHeartbeats 4000000 in
theorem ct_X5_addInstance {E : am_E} {μ : am_M} (hb : Bs μ) {S N : Nat} (ht : Tb μ S N) (f g l : Int32) (hl : l = 0 ∨ l = 1) : am_Ct E yX5_addInstance cX5_addInstance 4 (some .int) rmX5_addInstance [.ref 2, .int f, .int g, .int l] μ (fun v μ' => (N = 24 ∧ v = some (.int (-4)) ∧ μ' = μ) ∨ (N < 24 ∧ v = some (.int (nI N)) ∧ μ' = mm_sI (mm_sI (mm_sI (mm_sI μ 18 N f) 19 N g) 20 N l) 2 5 (nI (N + 1)))) := by
  refine am_Ct.of (ls := [some (.ref 2), some (.int f), some (.int g), some (.int l)]) (by decide) (Nat.le_of_ble_eq_true rfl) rfl (fun C fx hnm => ?_)
  have hN := ht.n
  refine am_aload_n fx dX5_addInstance_0 rfl ?_
  refine am_getI fx dX5_addInstance_1 fkX5_31 (by decide) (by decide) rfl (so5 hb) ht.2.1 ?_
  refine am_bipush (v := (nI 24)) fx dX5_addInstance_4 (by decide) ?_
  refine am_icmp_lt fx 12 dX5_addInstance_6 (by decide) (fun c6 => ?_) (fun c6 => ?_)
  · try simp (disch := omega) only [bz_0, Classical.not_not, Int32.not_le, Int32.not_lt, Nat.not_le, Nat.not_lt, nI_leI, nI_ltI, nI_eq, nI_le0, nI_lt0] at c6
    refine am_aload_n fx dX5_addInstance_12 rfl ?_
    refine am_getR fx dX5_addInstance_13 fkX5_20 (by decide) (by decide) rfl (so5 hb) (rf5_2 hb) ?_
    refine am_iconst (v := 0) fx dX5_addInstance_16 (by decide) ?_
    refine am_aald (j := 0) fx dX5_addInstance_17 (sa5_2 hb) rfl (by omega) (by decide) (rg5_2 hb (by omega)) ?_
    refine am_aload_n fx dX5_addInstance_18 rfl ?_
    refine am_getI fx dX5_addInstance_19 fkX5_31 (by decide) (by decide) rfl (so5 hb) ht.2.1 ?_
    refine am_iload_n fx dX5_addInstance_22 rfl ?_
    refine am_iast  fx dX5_addInstance_23 (sg5_2 hb (j := 0) (by omega)) rfl (by omega) (by decide) ?_
    refine am_aload_n fx dX5_addInstance_24 rfl ?_
    refine am_getR fx dX5_addInstance_25 fkX5_20 (by decide) (by decide) rfl (so5 hb) (rf5_2 hb) ?_
    refine am_iconst (v := 1) fx dX5_addInstance_28 (by decide) ?_
    refine am_aald (j := 1) fx dX5_addInstance_29 (sa5_2 hb) rfl (by omega) (by decide) (rg5_2 hb (by omega)) ?_
    refine am_aload_n fx dX5_addInstance_30 rfl ?_
    refine am_getI fx dX5_addInstance_31 fkX5_31 (by decide) (by decide) rfl (so5 hb) ht.2.1 ?_
    refine am_iload_n fx dX5_addInstance_34 rfl ?_
    refine am_iast  fx dX5_addInstance_35 (sg5_2 hb (j := 1) (by omega)) rfl (by omega) (by decide) ?_
    refine am_aload_n fx dX5_addInstance_36 rfl ?_
    refine am_getR fx dX5_addInstance_37 fkX5_23 (by decide) (by decide) rfl (so5 hb) (rf5_3 hb) ?_
    refine am_aload_n fx dX5_addInstance_40 rfl ?_
    refine am_getI fx dX5_addInstance_41 fkX5_31 (by decide) (by decide) rfl (so5 hb) ht.2.1 ?_
    refine am_iload_n fx dX5_addInstance_44 rfl ?_
    refine am_zast  fx dX5_addInstance_45 (sa5_3 hb) rfl (by omega) (by decide) hl ?_
    refine am_aload_n fx dX5_addInstance_46 rfl ?_
    refine am_dup_ref fx dX5_addInstance_47 ?_
    refine am_getI fx dX5_addInstance_48 fkX5_31 (by decide) (by decide) rfl (so5 hb) ht.2.1 ?_
    refine am_iconst (v := 1) fx dX5_addInstance_51 (by decide) ?_
    refine am_iadd fx dX5_addInstance_52 ?_
    refine am_topi (nI_1 N) ?_
    refine am_putI fx dX5_addInstance_53 fkX5_31 (by decide) (by decide) rfl rfl (so5 hb) ?_
    refine am_aload_n fx dX5_addInstance_56 rfl ?_
    refine am_getI fx dX5_addInstance_57 fkX5_31 (by decide) (by decide) rfl (so5 hb) (mI_same _ 2 5 _) ?_
    refine am_iconst (v := 1) fx dX5_addInstance_60 (by decide) ?_
    refine am_isub fx dX5_addInstance_61 ?_
    refine am_topi (nI_pred N) ?_
    exact am_iret fx dX5_addInstance_62 (Or.inr ⟨c6, rfl, rfl⟩)
  · try simp (disch := omega) only [bz_0, Classical.not_not, Int32.not_le, Int32.not_lt, Nat.not_le, Nat.not_lt, nI_leI, nI_ltI, nI_eq, nI_le0, nI_lt0] at c6
    refine am_bipush (v := (-4)) fx dX5_addInstance_9 (by decide) ?_
    exact am_iret fx dX5_addInstance_11 (Or.inl ⟨by omega, rfl, rfl⟩)
set_option maxRecDepth 100000 in
set_option maxHeartbeats 4000000 in
theorem ct_X5_tell {E : am_E} {μ : am_M} (hb : Bs μ) {S N : Nat} (ht : Tb μ S N) (s i : Nat) (hs : s < S) (hi : i < N) (x : Int32) : am_Ct E yX5_tell cX5_tell 4 (some .int) rmX5_tell [.ref 2, .int (nI s), .int (nI i), .int x] μ (fun v μ' => v = some (.int (mm_I μ 16 s + 1)) ∧ μ' = mm_sI (mm_sI μ (4 + s) i x) 16 s (mm_I μ 16 s + 1)) := by
  refine am_Ct.of (ls := [some (.ref 2), some (.int (nI s)), some (.int (nI i)), some (.int x)]) (by decide) (Nat.le_of_ble_eq_true rfl) rfl (fun C fx hnm => ?_)
  have hS := ht.s
  have hN := ht.n
  refine am_aload_n fx dX5_tell_0 rfl ?_
  refine am_iload_n fx dX5_tell_1 rfl ?_
  refine am_callV fx dX5_tell_2 mkX5_44 (ct_X5_hasSetting hb ht _) (so5 hb) ⟨by decide, rfl⟩ rfl (Nat.le_of_ble_eq_true rfl) ⟨by decide, by decide⟩ ⟨Nat.le_of_ble_eq_true rfl, Nat.le_of_ble_eq_true rfl⟩ rfl ?_
  rintro _ _ ⟨rfl, rfl⟩
  refine am_if_eq fx 16 dX5_tell_5 (by decide) (fun c5 => ?_) (fun c5 => ?_)
  · try simp (disch := omega) only [bz_0, Classical.not_not, Int32.not_le, Int32.not_lt, Nat.not_le, Nat.not_lt, nI_leI, nI_ltI, nI_eq, nI_le0, nI_lt0] at c5
    exact absurd ⟨nI_pos' (by omega), hs⟩ c5
  · try simp (disch := omega) only [bz_0, Classical.not_not, Int32.not_le, Int32.not_lt, Nat.not_le, Nat.not_lt, nI_leI, nI_ltI, nI_eq, nI_le0, nI_lt0] at c5
    refine am_aload_n fx dX5_tell_8 rfl ?_
    refine am_iload_n fx dX5_tell_9 rfl ?_
    refine am_callV fx dX5_tell_10 mkX5_40 (ct_X5_hasInstance hb ht _) (so5 hb) ⟨by decide, rfl⟩ rfl (Nat.le_of_ble_eq_true rfl) ⟨by decide, by decide⟩ ⟨Nat.le_of_ble_eq_true rfl, Nat.le_of_ble_eq_true rfl⟩ rfl ?_
    rintro _ _ ⟨rfl, rfl⟩
    refine am_if_ne fx 18 dX5_tell_13 (by decide) (fun c13 => ?_) (fun c13 => ?_)
    · try simp (disch := omega) only [bz_0, Classical.not_not, Int32.not_le, Int32.not_lt, Nat.not_le, Nat.not_lt, nI_leI, nI_ltI, nI_eq, nI_le0, nI_lt0] at c13
      refine am_aload_n fx dX5_tell_18 rfl ?_
      refine am_getR fx dX5_tell_19 fkX5_11 (by decide) (by decide) rfl (so5 hb) (rf5_0 hb) ?_
      refine am_iload_n fx dX5_tell_22 rfl ?_
      refine am_aald  fx dX5_tell_23 (sa5_0 hb) rfl (by omega) (by decide) (rg5_0 hb (by omega)) ?_
      refine am_iload_n fx dX5_tell_24 rfl ?_
      refine am_iload_n fx dX5_tell_25 rfl ?_
      refine am_iast  fx dX5_tell_26 (sg5_0 hb (by omega)) rfl (by omega) (by decide) ?_
      refine am_aload_n fx dX5_tell_27 rfl ?_
      refine am_getR fx dX5_tell_28 fkX5_16 (by decide) (by decide) rfl (so5 hb) (rf5_1 hb) ?_
      refine am_iload_n fx dX5_tell_31 rfl ?_
      refine am_dup2 fx dX5_tell_32 ?_
      refine am_iald  fx dX5_tell_33 (sa5_1 hb) rfl (by omega) (by decide) (mI_ne (Or.inl (by omega))) ?_
      refine am_iconst (v := 1) fx dX5_tell_34 (by decide) ?_
      refine am_iadd fx dX5_tell_35 ?_
      refine am_iast  fx dX5_tell_36 (sa5_1 hb) rfl (by omega) (by decide) ?_
      refine am_aload_n fx dX5_tell_37 rfl ?_
      refine am_getR fx dX5_tell_38 fkX5_16 (by decide) (by decide) rfl (so5 hb) (rf5_1 hb) ?_
      refine am_iload_n fx dX5_tell_41 rfl ?_
      refine am_iald  fx dX5_tell_42 (sa5_1 hb) rfl (by omega) (by decide) (mI_same _ 16 s _) ?_
      exact am_iret fx dX5_tell_43 ⟨rfl, rfl⟩
    · try simp (disch := omega) only [bz_0, Classical.not_not, Int32.not_le, Int32.not_lt, Nat.not_le, Nat.not_lt, nI_leI, nI_ltI, nI_eq, nI_le0, nI_lt0] at c13
      exact absurd ⟨nI_pos' (by omega), hi⟩ c13
set_option maxRecDepth 100000 in
set_option maxHeartbeats 4000000 in
theorem ct_X5_isWhole {E : am_E} {μ : am_M} (hb : Bs μ) {S N : Nat} (ht : Tb μ S N) (s : Nat) (hs : s < S) : am_Ct E yX5_isWhole cX5_isWhole 2 (some .boolean) rmX5_isWhole [.ref 2, .int (nI s)] μ (fun v μ' => v = some (.int (bz (mm_I μ 16 s = nI N))) ∧ μ = μ') := by
  refine am_Ct.of (ls := [some (.ref 2), some (.int (nI s))]) (by decide) (Nat.le_of_ble_eq_true rfl) rfl (fun C fx hnm => ?_)
  have hS := ht.s
  have hN := ht.n
  refine am_aload_n fx dX5_isWhole_0 rfl ?_
  refine am_iload_n fx dX5_isWhole_1 rfl ?_
  refine am_callV fx dX5_isWhole_2 mkX5_44 (ct_X5_hasSetting hb ht _) (so5 hb) ⟨by decide, rfl⟩ rfl (Nat.le_of_ble_eq_true rfl) ⟨by decide, by decide⟩ ⟨Nat.le_of_ble_eq_true rfl, Nat.le_of_ble_eq_true rfl⟩ rfl ?_
  rintro _ _ ⟨rfl, rfl⟩
  refine am_if_eq fx 25 dX5_isWhole_5 (by decide) (fun c5 => ?_) (fun c5 => ?_)
  · try simp (disch := omega) only [bz_0, Classical.not_not, Int32.not_le, Int32.not_lt, Nat.not_le, Nat.not_lt, nI_leI, nI_ltI, nI_eq, nI_le0, nI_lt0] at c5
    exact absurd ⟨nI_pos' (by omega), hs⟩ c5
  · try simp (disch := omega) only [bz_0, Classical.not_not, Int32.not_le, Int32.not_lt, Nat.not_le, Nat.not_lt, nI_leI, nI_ltI, nI_eq, nI_le0, nI_lt0] at c5
    refine am_aload_n fx dX5_isWhole_8 rfl ?_
    refine am_getR fx dX5_isWhole_9 fkX5_16 (by decide) (by decide) rfl (so5 hb) (rf5_1 hb) ?_
    refine am_iload_n fx dX5_isWhole_12 rfl ?_
    refine am_iald  fx dX5_isWhole_13 (sa5_1 hb) rfl (by omega) (by decide) rfl ?_
    refine am_aload_n fx dX5_isWhole_14 rfl ?_
    refine am_getI fx dX5_isWhole_15 fkX5_31 (by decide) (by decide) rfl (so5 hb) ht.2.1 ?_
    refine am_icmp_ne fx 25 dX5_isWhole_18 (by decide) (fun c18 => ?_) (fun c18 => ?_)
    · try simp (disch := omega) only [bz_0, Classical.not_not, Int32.not_le, Int32.not_lt, Nat.not_le, Nat.not_lt, nI_leI, nI_ltI, nI_eq, nI_le0, nI_lt0] at c18
      refine am_iconst (v := 0) fx dX5_isWhole_25 (by decide) ?_
      exact am_zret fx dX5_isWhole_26 (by first | exact Or.inl rfl | exact Or.inr rfl | exact bz_01) ⟨congrArg (fun z => some (Value.int z)) (by first | exact bz_t c18 | exact bz_f c18), rfl⟩
    · try simp (disch := omega) only [bz_0, Classical.not_not, Int32.not_le, Int32.not_lt, Nat.not_le, Nat.not_lt, nI_leI, nI_ltI, nI_eq, nI_le0, nI_lt0] at c18
      refine am_iconst (v := 1) fx dX5_isWhole_21 (by decide) ?_
      refine am_goto fx 26 dX5_isWhole_22 (by decide) ?_
      exact am_zret fx dX5_isWhole_26 (by first | exact Or.inl rfl | exact Or.inr rfl | exact bz_01) ⟨congrArg (fun z => some (Value.int z)) (by first | exact bz_t c18 | exact bz_f c18), rfl⟩
def cw (μ : am_M) (N : Nat) : Nat → Nat
  | 0 => 0
  | k + 1 => cw μ N k + (if mm_I μ 16 k = nI N then 1 else 0)
theorem cw_le (μ : am_M) (N : Nat) : ∀ k, cw μ N k ≤ k
  | 0 => Nat.le_refl _
  | k + 1 => by
    have := cw_le μ N k
    simp only [cw]
    split <;> omega
set_option maxRecDepth 100000 in
set_option maxHeartbeats 4000000 in
theorem ct_X5_countWhole {E : am_E} {μ : am_M} (hb : Bs μ) {S N : Nat} (ht : Tb μ S N) : am_Ct E yX5_countWhole cX5_countWhole 3 (some .int) rmX5_countWhole [.ref 2] μ (fun v μ' => v = some (.int (nI (cw μ N S))) ∧ μ = μ') := by
  refine am_Ct.of (ls := [some (.ref 2), none, none]) (by decide) (Nat.le_of_ble_eq_true rfl) rfl (fun C fx hnm => ?_)
  have hS := ht.s
  have hN := ht.n
  refine am_iconst (v := 0) fx dX5_countWhole_0 (by decide) ?_
  refine am_istore_n fx dX5_countWhole_1 (by decide) rfl ?_
  refine am_iconst (v := 0) fx dX5_countWhole_2 (by decide) ?_
  refine am_istore_n fx dX5_countWhole_3 (by decide) rfl ?_
  have lp4 : ∀ (mz : Nat) (r : Nat) (x : Int32), S - r = mz → r ≤ S → x = nI (cw μ N r) → am_W E C (am_MQ E C (fun v μ' => v = some (.int (nI (cw μ N S))) ∧ μ = μ') (rmX5_countWhole).cells (rmX5_countWhole).slots) μ 0 0 4 [some (.ref 2), some (.int x), some (.int (nI r))] [] := by
    intro mz
    induction mz using Nat.strongRecOn with
    | ind mz ih =>
      intro r x hn hr hx
      refine am_iload_n fx dX5_countWhole_4 rfl ?_
      refine am_aload_n fx dX5_countWhole_5 rfl ?_
      refine am_getI fx dX5_countWhole_6 fkX5_27 (by decide) (by decide) rfl (so5 hb) ht.1 ?_
      refine am_icmp_ge fx 29 dX5_countWhole_9 (by decide) (fun c9 => ?_) (fun c9 => ?_)
      · try simp (disch := omega) only [bz_0, Classical.not_not, Int32.not_le, Int32.not_lt, Nat.not_le, Nat.not_lt, nI_leI, nI_ltI, nI_eq, nI_le0, nI_lt0] at c9
        refine am_iload_n fx dX5_countWhole_29 rfl ?_
        exact am_iret fx dX5_countWhole_30 ⟨by rw [hx, show r = S by omega], rfl⟩
      · try simp (disch := omega) only [bz_0, Classical.not_not, Int32.not_le, Int32.not_lt, Nat.not_le, Nat.not_lt, nI_leI, nI_ltI, nI_eq, nI_le0, nI_lt0] at c9
        refine am_aload_n fx dX5_countWhole_12 rfl ?_
        refine am_iload_n fx dX5_countWhole_13 rfl ?_
        refine am_callV fx dX5_countWhole_14 mkX5_47 (ct_X5_isWhole hb ht _ (by assumption)) (so5 hb) ⟨by decide, rfl⟩ rfl (Nat.le_of_ble_eq_true rfl) ⟨by decide, by decide⟩ ⟨Nat.le_of_ble_eq_true rfl, Nat.le_of_ble_eq_true rfl⟩ rfl ?_
        rintro _ _ ⟨rfl, rfl⟩
        refine am_if_eq fx 23 dX5_countWhole_17 (by decide) (fun c17 => ?_) (fun c17 => ?_)
        · try simp (disch := omega) only [bz_0, Classical.not_not, Int32.not_le, Int32.not_lt, Nat.not_le, Nat.not_lt, nI_leI, nI_ltI, nI_eq, nI_le0, nI_lt0] at c17
          first | refine am_iinc fx dX5_countWhole_23 rfl (nI_inc _) (by decide) rfl ?_ | refine am_iinc fx dX5_countWhole_23 rfl rfl (by decide) rfl ?_
          refine am_goto fx 4 dX5_countWhole_26 (by decide) ?_
          exact ih (S - (r + 1)) (by omega) (r + 1) _ rfl (by omega) (by first | (rw [hx, cw, if_pos c17]; exact nI_inc _) | (rw [hx, cw, if_neg c17]; rfl))
        · try simp (disch := omega) only [bz_0, Classical.not_not, Int32.not_le, Int32.not_lt, Nat.not_le, Nat.not_lt, nI_leI, nI_ltI, nI_eq, nI_le0, nI_lt0] at c17
          first | refine am_iinc fx dX5_countWhole_20 rfl (nI_inc _) (by decide) rfl ?_ | refine am_iinc fx dX5_countWhole_20 rfl rfl (by decide) rfl ?_
          first | refine am_iinc fx dX5_countWhole_23 rfl (nI_inc _) (by decide) rfl ?_ | refine am_iinc fx dX5_countWhole_23 rfl rfl (by decide) rfl ?_
          refine am_goto fx 4 dX5_countWhole_26 (by decide) ?_
          exact ih (S - (r + 1)) (by omega) (r + 1) _ rfl (by omega) (by first | (rw [hx, cw, if_pos c17]; exact nI_inc _) | (rw [hx, cw, if_neg c17]; rfl))
  exact lp4 _ 0 _ rfl (by omega) rfl
set_option maxRecDepth 100000 in
set_option maxHeartbeats 4000000 in
theorem ct_X5_featureAt {E : am_E} {μ : am_M} (hb : Bs μ) {S N : Nat} (ht : Tb μ S N) (f i : Nat) (hf : f < 2) (hi : i < N) : am_Ct E yX5_featureAt cX5_featureAt 3 (some .int) rmX5_featureAt [.ref 2, .int (nI f), .int (nI i)] μ (fun v μ' => v = some (.int (mm_I μ (18 + f) i)) ∧ μ = μ') := by
  refine am_Ct.of (ls := [some (.ref 2), some (.int (nI f)), some (.int (nI i))]) (by decide) (Nat.le_of_ble_eq_true rfl) rfl (fun C fx hnm => ?_)
  have hS := ht.s
  have hN := ht.n
  refine am_iload_n fx dX5_featureAt_0 rfl ?_
  refine am_iconst (v := 0) fx dX5_featureAt_1 (by decide) ?_
  refine am_iconst (v := 1) fx dX5_featureAt_2 (by decide) ?_
  refine am_callS fx dX5_featureAt_3 mkX5_50 (ct_X6_isWithin hb _ _ _) rfl (Nat.le_of_ble_eq_true rfl) ⟨by decide, by decide⟩ ⟨Nat.le_of_ble_eq_true rfl, Nat.le_of_ble_eq_true rfl⟩ rfl ?_
  rintro _ _ ⟨rfl, rfl⟩
  refine am_if_eq fx 28 dX5_featureAt_6 (by decide) (fun c6 => ?_) (fun c6 => ?_)
  · try simp (disch := omega) only [bz_0, Classical.not_not, Int32.not_le, Int32.not_lt, Nat.not_le, Nat.not_lt, nI_leI, nI_ltI, nI_eq, nI_le0, nI_lt0] at c6
    exact absurd ⟨nI_pos' (by omega), nI_le (b := 1) (by omega) (by omega)⟩ c6
  · try simp (disch := omega) only [bz_0, Classical.not_not, Int32.not_le, Int32.not_lt, Nat.not_le, Nat.not_lt, nI_leI, nI_ltI, nI_eq, nI_le0, nI_lt0] at c6
    refine am_aload_n fx dX5_featureAt_9 rfl ?_
    refine am_iload_n fx dX5_featureAt_10 rfl ?_
    refine am_callV fx dX5_featureAt_11 mkX5_40 (ct_X5_hasInstance hb ht _) (so5 hb) ⟨by decide, rfl⟩ rfl (Nat.le_of_ble_eq_true rfl) ⟨by decide, by decide⟩ ⟨Nat.le_of_ble_eq_true rfl, Nat.le_of_ble_eq_true rfl⟩ rfl ?_
    rintro _ _ ⟨rfl, rfl⟩
    refine am_if_eq fx 28 dX5_featureAt_14 (by decide) (fun c14 => ?_) (fun c14 => ?_)
    · try simp (disch := omega) only [bz_0, Classical.not_not, Int32.not_le, Int32.not_lt, Nat.not_le, Nat.not_lt, nI_leI, nI_ltI, nI_eq, nI_le0, nI_lt0] at c14
      exact absurd ⟨nI_pos' (by omega), hi⟩ c14
    · try simp (disch := omega) only [bz_0, Classical.not_not, Int32.not_le, Int32.not_lt, Nat.not_le, Nat.not_lt, nI_leI, nI_ltI, nI_eq, nI_le0, nI_lt0] at c14
      refine am_aload_n fx dX5_featureAt_17 rfl ?_
      refine am_getR fx dX5_featureAt_18 fkX5_20 (by decide) (by decide) rfl (so5 hb) (rf5_2 hb) ?_
      refine am_iload_n fx dX5_featureAt_21 rfl ?_
      refine am_aald  fx dX5_featureAt_22 (sa5_2 hb) rfl (by omega) (by decide) (rg5_2 hb (by omega)) ?_
      refine am_iload_n fx dX5_featureAt_23 rfl ?_
      refine am_iald  fx dX5_featureAt_24 (sg5_2 hb (by omega)) rfl (by omega) (by decide) rfl ?_
      refine am_goto fx 29 dX5_featureAt_25 (by decide) ?_
      exact am_iret fx dX5_featureAt_29 ⟨rfl, rfl⟩
def ab (x : Int32) : Int32 := if 0 ≤ x then x else 0 - x
def di (μ : am_M) (i j : Nat) : Int32 := ab (mm_I μ 18 i - mm_I μ 18 j) + ab (mm_I μ 19 i - mm_I μ 19 j)
set_option maxRecDepth 100000 in
set_option maxHeartbeats 4000000 in
theorem ct_X5_distance {E : am_E} {μ : am_M} (hb : Bs μ) {S N : Nat} (ht : Tb μ S N) (i j : Nat) (hi : i < N) (hj : j < N) : am_Ct E yX5_distance cX5_distance 3 (some .int) rmX5_distance [.ref 2, .int (nI i), .int (nI j)] μ (fun v μ' => v = some (.int (di μ i j)) ∧ μ = μ') := by
  refine am_Ct.of (ls := [some (.ref 2), some (.int (nI i)), some (.int (nI j))]) (by decide) (Nat.le_of_ble_eq_true rfl) rfl (fun C fx hnm => ?_)
  have hS := ht.s
  have hN := ht.n
  refine am_aload_n fx dX5_distance_0 rfl ?_
  refine am_iconst (v := 0) fx dX5_distance_1 (by decide) ?_
  refine am_iload_n fx dX5_distance_2 rfl ?_
  refine am_callV fx dX5_distance_3 mkX5_61 (ct_X5_featureAt hb ht 0 i (by omega) hi) (so5 hb) ⟨by decide, rfl⟩ rfl (Nat.le_of_ble_eq_true rfl) ⟨by decide, by decide⟩ ⟨Nat.le_of_ble_eq_true rfl, Nat.le_of_ble_eq_true rfl⟩ rfl ?_
  rintro _ _ ⟨rfl, rfl⟩
  refine am_aload_n fx dX5_distance_6 rfl ?_
  refine am_iconst (v := 0) fx dX5_distance_7 (by decide) ?_
  refine am_iload_n fx dX5_distance_8 rfl ?_
  refine am_callV fx dX5_distance_9 mkX5_61 (ct_X5_featureAt hb ht 0 j (by omega) hj) (so5 hb) ⟨by decide, rfl⟩ rfl (Nat.le_of_ble_eq_true rfl) ⟨by decide, by decide⟩ ⟨Nat.le_of_ble_eq_true rfl, Nat.le_of_ble_eq_true rfl⟩ rfl ?_
  rintro _ _ ⟨rfl, rfl⟩
  refine am_isub fx dX5_distance_12 ?_
  refine am_mabs fx dX5_distance_13 moX5_64 kw_sabs knJ9 kw_cabs ⟨by decide, Nat.le_of_ble_eq_true rfl, Nat.le_of_ble_eq_true rfl, Nat.le_of_ble_eq_true rfl⟩ rfl ?_
  refine am_aload_n fx dX5_distance_16 rfl ?_
  refine am_iconst (v := 1) fx dX5_distance_17 (by decide) ?_
  refine am_iload_n fx dX5_distance_18 rfl ?_
  refine am_callV fx dX5_distance_19 mkX5_61 (ct_X5_featureAt hb ht 1 i (by omega) hi) (so5 hb) ⟨by decide, rfl⟩ rfl (Nat.le_of_ble_eq_true rfl) ⟨by decide, by decide⟩ ⟨Nat.le_of_ble_eq_true rfl, Nat.le_of_ble_eq_true rfl⟩ rfl ?_
  rintro _ _ ⟨rfl, rfl⟩
  refine am_aload_n fx dX5_distance_22 rfl ?_
  refine am_iconst (v := 1) fx dX5_distance_23 (by decide) ?_
  refine am_iload_n fx dX5_distance_24 rfl ?_
  refine am_callV fx dX5_distance_25 mkX5_61 (ct_X5_featureAt hb ht 1 j (by omega) hj) (so5 hb) ⟨by decide, rfl⟩ rfl (Nat.le_of_ble_eq_true rfl) ⟨by decide, by decide⟩ ⟨Nat.le_of_ble_eq_true rfl, Nat.le_of_ble_eq_true rfl⟩ rfl ?_
  rintro _ _ ⟨rfl, rfl⟩
  refine am_isub fx dX5_distance_28 ?_
  refine am_mabs fx dX5_distance_29 moX5_64 kw_sabs knJ9 kw_cabs ⟨by decide, Nat.le_of_ble_eq_true rfl, Nat.le_of_ble_eq_true rfl, Nat.le_of_ble_eq_true rfl⟩ rfl ?_
  refine am_iadd fx dX5_distance_32 ?_
  exact am_iret fx dX5_distance_33 ⟨rfl, rfl⟩
