/-! the model: sets as ints -/
theorem nI_and {a b : Nat} (ha : a < 2 ^ 31) (hb : b < 2 ^ 31) : nI a &&& nI b = nI (a &&& b) := by
  have hl : a &&& b < 2 ^ 31 := Nat.and_lt_two_pow a hb
  refine Int32.toBitVec_inj.mp (BitVec.eq_of_toNat_eq ?_)
  rw [Int32.toBitVec_and, BitVec.toNat_and, pk_tn (by omega), pk_tn (by omega), pk_tn (by omega)]
theorem nI_and31 : ∀ k, k < 13 → nI k &&& 31 = nI k := by decide
theorem nI_smod : ∀ k, k < 13 → ((nI k).toBitVec.smod 32).toNat = k := by decide
theorem sh1 : ∀ s, s < 12 → (1 : Int32) <<< (nI s &&& 31) = nI (2 ^ s) := by decide
theorem or_bit : ∀ s, s < 12 → ∀ a, a < 2 ^ s → nI a ||| nI (2 ^ s) = nI (a + 2 ^ s) := by decide +kernel
def bN (b : Bool) : Nat := if b = true then 1 else 0
theorem sh_bit {X k : Nat} (hX : X < 2 ^ 31) (hk : k < 13) : (nI X >>> (nI k &&& 31)) &&& 1 = nI (bN (X.testBit k)) := by
  rw [nI_and31 k hk, pk_shrN hX (nI k) k (nI_smod k hk), pk_andN (by have := Nat.div_le_self X (2 ^ k); omega) 1 rfl]
  congr 1
  unfold bN
  rw [Nat.testBit_eq_decide_div_mod_eq]
  by_cases h : X / 2 ^ k % 2 = 1
  · simp [h]
  · simp [h]; omega
def bitsN (b : Nat → Bool) : Nat → Nat
  | 0 => 0
  | s + 1 => bitsN b s + (if b s = true then 2 ^ s else 0)
theorem bitsN_lt (b : Nat → Bool) : ∀ s, bitsN b s < 2 ^ s
  | 0 => by simp [bitsN]
  | s + 1 => by
    have := bitsN_lt b s
    simp only [bitsN]
    rw [Nat.pow_succ]
    split <;> omega
theorem bitsN_bit (b : Nat → Bool) : ∀ n s, s < n → (bitsN b n).testBit s = b s
  | 0, s, h => by omega
  | n + 1, s, h => by
    have hl := bitsN_lt b n
    simp only [bitsN]
    rcases Nat.lt_or_ge s n with z | z
    · have ih := bitsN_bit b n s z
      by_cases hb : b n = true
      · rw [if_pos hb, Nat.add_comm, Nat.testBit_two_pow_add_gt z, ih]
      · rw [if_neg hb, Nat.add_zero, ih]
    · rw [show s = n by omega]
      by_cases hb : b n = true
      · rw [if_pos hb, Nat.add_comm, Nat.testBit_two_pow_add_eq, Nat.testBit_lt_two_pow hl, hb]; rfl
      · rw [if_neg hb, Nat.add_zero, Nat.testBit_lt_two_pow hl]
        simpa using hb
theorem bit_hi {X t : Nat} (hX : X < 4096) (h : X.testBit t = true) : t < 12 := by
  rcases Nat.lt_or_ge t 12 with z | z
  · exact z
  · rw [Nat.testBit_lt_two_pow (Nat.lt_of_lt_of_le hX (show 2 ^ 12 ≤ 2 ^ t from Nat.pow_le_pow_right (by decide) z))] at h
    cases h
theorem bits_ext {X Y : Nat} (hX : X < 4096) (hY : Y < 4096) (h : ∀ s, s < 12 → X.testBit s = Y.testBit s) : X = Y := by
  refine Nat.eq_of_testBit_eq (fun i => ?_)
  rcases Nat.lt_or_ge i 12 with z | z
  · exact h i z
  · rw [Nat.testBit_lt_two_pow (Nat.lt_of_lt_of_le hX (show 2 ^ 12 ≤ 2 ^ i from Nat.pow_le_pow_right (by decide) z)), Nat.testBit_lt_two_pow (Nat.lt_of_lt_of_le hY (show 2 ^ 12 ≤ 2 ^ i from Nat.pow_le_pow_right (by decide) z))]
theorem ah_rc {X Y : Nat} (hX : X < 4096) (hY : Y < 4096) : (∃ t, X.testBit t = true ∧ Y.testBit t = false ∧ ∀ j, j < t → X.testBit j = Y.testBit j) ↔ rcF Y.testBit 12 < rcF X.testBit 12 := by
  constructor
  · rintro ⟨t, h1, h2, h3⟩
    exact rcF_less h3 h1 h2 (bit_hi hX h1)
  · intro h
    have hex : ∃ j, X.testBit j ≠ Y.testBit j := Classical.byContradiction (fun hn => by
      have : rcF Y.testBit 12 = rcF X.testBit 12 := rcF_congr (fun j _ => (Classical.not_not.mp (fun z => hn ⟨j, z⟩)).symm)
      omega)
    obtain ⟨t, ht, hl⟩ := pk_least (fun j => X.testBit j ≠ Y.testBit j) hex
    have hl2 : ∀ j, j < t → X.testBit j = Y.testBit j := fun j hj => Classical.not_not.mp (hl j hj)
    cases hx : X.testBit t with
    | true =>
      cases hy : Y.testBit t with
      | true => exact absurd (hx.trans hy.symm) ht
      | false => exact ⟨t, hx, hy, hl2⟩
    | false =>
      cases hy : Y.testBit t with
      | false => exact absurd (hx.trans hy.symm) ht
      | true =>
        have := rcF_less (X := Y.testBit) (Y := X.testBit) (t := t) (fun j hj => (hl2 j hj).symm) hy hx (bit_hi hY hy)
        omega
theorem ah_bv {a b : BitVec 32} : ((a &&& (a ^^^ b)) &&& -(a ^^^ b)) = 0#32 ↔ ¬ ∃ t, t < 32 ∧ a.getLsbD t = true ∧ b.getLsbD t = false ∧ ∀ j, j < t → a.getLsbD j = b.getLsbD j := by
  constructor
  · rintro h ⟨t, h0, h1, h2, h3⟩
    have h4 := congrArg (fun z => z.getLsbD t) h
    simp only [BitVec.getLsbD_and, BitVec.getLsbD_xor, BitVec.getLsbD_neg, BitVec.getLsbD_zero, h1, h2, h0] at h4
    have hn : ¬ ∃ j, j < t ∧ (a.getLsbD j ^^ b.getLsbD j) = true := by
      rintro ⟨j, hj, hq⟩
      rw [h3 j hj] at hq
      simp at hq
    simp [hn] at h4
    obtain ⟨j, hj, hq⟩ := h4
    exact hq (h3 j hj)
  · intro h
    refine BitVec.eq_of_getLsbD_eq (fun i hi => ?_)
    simp only [BitVec.getLsbD_and, BitVec.getLsbD_xor, BitVec.getLsbD_neg, BitVec.getLsbD_zero]
    cases ha : a.getLsbD i with
    | false => simp
    | true =>
      cases hb : b.getLsbD i with
      | true => simp
      | false =>
        have hex : ∃ j, j < i ∧ (a.getLsbD j ^^ b.getLsbD j) = true := Classical.byContradiction (fun hn => h ⟨i, hi, ha, hb, fun j hj => by
          have h9 : ¬ (a.getLsbD j ^^ b.getLsbD j) = true := fun z => hn ⟨j, hj, z⟩
          cases e1 : a.getLsbD j <;> cases e2 : b.getLsbD j <;> simp_all⟩)
        obtain ⟨j, hj, hq⟩ := hex
        simp [hi]
        exact ⟨j, hj, fun z => by rw [z] at hq; simp at hq⟩
theorem ah_iff {X Y : Nat} (hX : X < 4096) (hY : Y < 4096) : ((nI X &&& (nI X ^^^ nI Y)) &&& -(nI X ^^^ nI Y)) = 0 ↔ ¬ rcF Y.testBit 12 < rcF X.testBit 12 := by
  rw [← ah_rc hX hY]
  have e : ∀ Z i, Z < 4096 → i < 32 → (nI Z).toBitVec.getLsbD i = Z.testBit i := fun Z i hZ hi => by
    show (BitVec.ofNat 32 Z).getLsbD i = _
    rw [BitVec.getLsbD_ofNat]
    simp [hi]
  have h0 : ((nI X &&& (nI X ^^^ nI Y)) &&& -(nI X ^^^ nI Y)) = 0 ↔ ((((nI X).toBitVec &&& ((nI X).toBitVec ^^^ (nI Y).toBitVec)) &&& -((nI X).toBitVec ^^^ (nI Y).toBitVec)) = 0#32) := by
    rw [← Int32.toBitVec_inj]
    simp only [Int32.toBitVec_and, Int32.toBitVec_xor, Int32.toBitVec_neg]
    rfl
  rw [h0, ah_bv]
  refine not_congr ⟨?_, ?_⟩
  · rintro ⟨t, h1, h2, h3, h4⟩
    refine ⟨t, by rw [← e X t hX h1]; exact h2, by rw [← e Y t hY h1]; exact h3, fun j hj => ?_⟩
    rw [← e X j hX (by omega), ← e Y j hY (by omega)]
    exact h4 j hj
  · rintro ⟨t, h2, h3, h4⟩
    have h1 := bit_hi hX h2
    refine ⟨t, by omega, by rw [e X t hX (by omega)]; exact h2, by rw [e Y t hY (by omega)]; exact h3, fun j hj => ?_⟩
    rw [e X j hX (by omega), e Y j hY (by omega)]
    exact h4 j hj
def whM (cs : Nat → Nat → Int32) (N s : Nat) : Bool := (List.range N).all (fun i => decide (¬ cs s i = -1))
theorem whM_iff {cs : Nat → Nat → Int32} {N s : Nat} : whM cs N s = true ↔ ∀ i, i < N → ¬ cs s i = -1 := by
  unfold whM
  rw [List.all_eq_true]
  exact ⟨fun h i hi => of_decide_eq_true (h i (List.mem_range.mpr hi)), fun h i hi => decide_eq_true (h i (List.mem_range.mp hi))⟩
def lfM (b : Nat → Bool) (c : Nat → Int32) : Nat → Int32
  | 0 => 2000001
  | s + 1 => if b s = true ∧ c s < lfM b c s then c s else lfM b c s
set_option maxRecDepth 100000 in
set_option maxHeartbeats 4000000 in
theorem ct_X7_isWhole {E : am_E} {μ : am_M} (hb : Bs μ) {S N : Nat} {cs : Nat → Nat → Int32} (hm : Mt μ S N cs) (s : Nat) (hs : s < 12) : am_Ct E yX7_isWhole cX7_isWhole 3 (some .boolean) rmX7_isWhole [.ref 46, .int (nI s)] μ (fun v μ' => v = some (.int (bz (whM cs N s = true))) ∧ μ = μ') := by
  refine am_Ct.of (ls := [some (.ref 46), some (.int (nI s)), none]) (by decide) (Nat.le_of_ble_eq_true rfl) rfl (fun C fx hnm => ?_)
  have hS := hm.s
  have hN := hm.n
  refine am_iconst (v := 0) fx dX7_isWhole_0 (by decide) ?_
  refine am_istore_n fx dX7_isWhole_1 (by decide) rfl ?_
  have lp2 : ∀ (mz : Nat) (r : Nat), N - r = mz → r ≤ N → (∀ i, i < r → ¬ cs s i = -1) → am_W E C (am_MQ E C (fun v μ' => v = some (.int (bz (whM cs N s = true))) ∧ μ = μ') (rmX7_isWhole).cells (rmX7_isWhole).slots) μ 0 0 2 [some (.ref 46), some (.int (nI s)), some (.int (nI r))] [] := by
    intro mz
    induction mz using Nat.strongRecOn with
    | ind mz ih =>
      intro r hz hr hno
      refine am_iload_n fx dX7_isWhole_2 rfl ?_
      refine am_aload_n fx dX7_isWhole_3 rfl ?_
      refine am_getI fx dX7_isWhole_4 fkX7_53 (by decide) (by decide) rfl (so7 hb) hm.2.1 ?_
      refine am_icmp_ge fx 32 dX7_isWhole_7 (by decide) (fun c7 => ?_) (fun c7 => ?_)
      · try simp (disch := omega) only [bz_0, Classical.not_not, Int32.not_le, Int32.not_lt, Nat.not_le, Nat.not_lt, nI_leI, nI_ltI, nI_eq, nI_le0, nI_lt0] at c7
        refine am_iconst (v := 1) fx dX7_isWhole_32 (by decide) ?_
        exact am_zret fx dX7_isWhole_33 (by first | exact Or.inl rfl | exact Or.inr rfl | exact bz_01) ⟨by rw [← bz_t (whM_iff.mpr (fun i hi => hno i (by omega)))], rfl⟩
      · try simp (disch := omega) only [bz_0, Classical.not_not, Int32.not_le, Int32.not_lt, Nat.not_le, Nat.not_lt, nI_leI, nI_ltI, nI_eq, nI_le0, nI_lt0] at c7
        refine am_aload_n fx dX7_isWhole_10 rfl ?_
        refine am_getR fx dX7_isWhole_11 fkX7_17 (by decide) (by decide) rfl (so7 hb) (rf7_5 hb) ?_
        refine am_bipush (v := (nI 24)) fx dX7_isWhole_14 (by decide) ?_
        refine am_iload_n fx dX7_isWhole_16 rfl ?_
        refine am_imul fx dX7_isWhole_17 ?_
        refine am_iload_n fx dX7_isWhole_18 rfl ?_
        refine am_iadd fx dX7_isWhole_19 ?_
        refine am_iald (j := (24 * s + r)) fx dX7_isWhole_20 (sa7_5 hb) (ix24 s r) (by omega) (by decide) (hm.2.2.2.2.1 s r (by omega) (by omega)) ?_
        refine am_if_ne fx 26 dX7_isWhole_21 (by decide) (fun c21 => ?_) (fun c21 => ?_)
        · skip
          first | refine am_iinc fx dX7_isWhole_26 rfl (nI_inc _) (by decide) rfl ?_ | refine am_iinc fx dX7_isWhole_26 rfl rfl (by decide) rfl ?_
          refine am_goto fx 2 dX7_isWhole_29 (by decide) ?_
          exact ih (N - (r + 1)) (by omega) (r + 1) rfl (by omega) (fun i hi => by rcases Nat.lt_or_ge i r with z | z; exact hno i z; rw [show i = r by omega]; exact fun z => c21 ((p1_0 _).mpr z))
        · skip
          refine am_iconst (v := 0) fx dX7_isWhole_24 (by decide) ?_
          exact am_zret fx dX7_isWhole_25 (by first | exact Or.inl rfl | exact Or.inr rfl | exact bz_01) ⟨by rw [← bz_f (fun z => whM_iff.mp z r (by omega) ((p1_0 _).mp c21))], rfl⟩
  exact lp2 _ 0 rfl (Nat.zero_le _) (fun i hi => absurd hi (by omega))
set_option maxRecDepth 100000 in
set_option maxHeartbeats 4000000 in
theorem ct_X7_wholes {E : am_E} {μ : am_M} (hb : Bs μ) {S N : Nat} {cs : Nat → Nat → Int32} (hm : Mt μ S N cs) : am_Ct E yX7_wholes cX7_wholes 3 (some .int) rmX7_wholes [.ref 46] μ (fun v μ' => v = some (.int (nI (bitsN (whM cs N) S))) ∧ μ = μ') := by
  refine am_Ct.of (ls := [some (.ref 46), none, none]) (by decide) (Nat.le_of_ble_eq_true rfl) rfl (fun C fx hnm => ?_)
  have hS := hm.s
  have hN := hm.n
  refine am_iconst (v := 0) fx dX7_wholes_0 (by decide) ?_
  refine am_istore_n fx dX7_wholes_1 (by decide) rfl ?_
  refine am_iconst (v := 0) fx dX7_wholes_2 (by decide) ?_
  refine am_istore_n fx dX7_wholes_3 (by decide) rfl ?_
  have lp4 : ∀ (mz : Nat) (r : Nat), S - r = mz → r ≤ S → am_W E C (am_MQ E C (fun v μ' => v = some (.int (nI (bitsN (whM cs N) S))) ∧ μ = μ') (rmX7_wholes).cells (rmX7_wholes).slots) μ 0 0 4 [some (.ref 46), some (.int (nI (bitsN (whM cs N) r))), some (.int (nI r))] [] := by
    intro mz
    induction mz using Nat.strongRecOn with
    | ind mz ih =>
      intro r hz hr
      refine am_iload_n fx dX7_wholes_4 rfl ?_
      refine am_aload_n fx dX7_wholes_5 rfl ?_
      refine am_getI fx dX7_wholes_6 fkX7_46 (by decide) (by decide) rfl (so7 hb) hm.1 ?_
      refine am_icmp_ge fx 36 dX7_wholes_9 (by decide) (fun c9 => ?_) (fun c9 => ?_)
      · try simp (disch := omega) only [bz_0, Classical.not_not, Int32.not_le, Int32.not_lt, Nat.not_le, Nat.not_lt, nI_leI, nI_ltI, nI_eq, nI_le0, nI_lt0] at c9
        refine am_iload_n fx dX7_wholes_36 rfl ?_
        exact am_iret fx dX7_wholes_37 ⟨by rw [show S = r by omega], rfl⟩
      · try simp (disch := omega) only [bz_0, Classical.not_not, Int32.not_le, Int32.not_lt, Nat.not_le, Nat.not_lt, nI_leI, nI_ltI, nI_eq, nI_le0, nI_lt0] at c9
        refine am_iload_n fx dX7_wholes_12 rfl ?_
        refine am_aload_n fx dX7_wholes_13 rfl ?_
        refine am_iload_n fx dX7_wholes_14 rfl ?_
        refine am_callV fx dX7_wholes_15 mkX7_142 (ct_X7_isWhole hb hm r (by omega)) (so7 hb) ⟨by decide, rfl⟩ rfl (Nat.le_of_ble_eq_true rfl) ⟨by decide, by decide⟩ ⟨Nat.le_of_ble_eq_true rfl, Nat.le_of_ble_eq_true rfl⟩ rfl ?_
        rintro _ _ ⟨rfl, rfl⟩
        refine am_if_eq fx 27 dX7_wholes_18 (by decide) (fun c18 => ?_) (fun c18 => ?_)
        · try simp (disch := omega) only [bz_0, Classical.not_not, Int32.not_le, Int32.not_lt, Nat.not_le, Nat.not_lt, nI_leI, nI_ltI, nI_eq, nI_le0, nI_lt0] at c18
          refine am_iconst (v := 0) fx dX7_wholes_27 (by decide) ?_
          refine am_ior fx dX7_wholes_28 ?_
          refine am_topi (show _ = nI (bitsN (whM cs N) (r + 1)) by simp only [bitsN]; rw [if_neg c18]; exact Int32.or_zero) ?_
          refine am_istore_n fx dX7_wholes_29 (by decide) rfl ?_
          first | refine am_iinc fx dX7_wholes_30 rfl (nI_inc _) (by decide) rfl ?_ | refine am_iinc fx dX7_wholes_30 rfl rfl (by decide) rfl ?_
          refine am_goto fx 4 dX7_wholes_33 (by decide) ?_
          exact ih (S - (r + 1)) (by omega) (r + 1) rfl (by omega)
        · try simp (disch := omega) only [bz_0, Classical.not_not, Int32.not_le, Int32.not_lt, Nat.not_le, Nat.not_lt, nI_leI, nI_ltI, nI_eq, nI_le0, nI_lt0] at c18
          refine am_iconst (v := 1) fx dX7_wholes_21 (by decide) ?_
          refine am_iload_n fx dX7_wholes_22 rfl ?_
          refine am_ishl fx dX7_wholes_23 ?_
          refine am_topi (sh1 r (by omega)) ?_
          refine am_goto fx 28 dX7_wholes_24 (by decide) ?_
          refine am_ior fx dX7_wholes_28 ?_
          refine am_topi (show _ = nI (bitsN (whM cs N) (r + 1)) by simp only [bitsN]; rw [if_pos c18]; exact or_bit r (by omega) _ (bitsN_lt _ _)) ?_
          refine am_istore_n fx dX7_wholes_29 (by decide) rfl ?_
          first | refine am_iinc fx dX7_wholes_30 rfl (nI_inc _) (by decide) rfl ?_ | refine am_iinc fx dX7_wholes_30 rfl rfl (by decide) rfl ?_
          refine am_goto fx 4 dX7_wholes_33 (by decide) ?_
          exact ih (S - (r + 1)) (by omega) (r + 1) rfl (by omega)
  exact lp4 _ 0 rfl (Nat.zero_le _)
set_option maxRecDepth 100000 in
set_option maxHeartbeats 4000000 in
theorem ct_X7_many {E : am_E} {μ : am_M} {X : Nat} (hX : X < 4096) : am_Ct E yX7_many cX7_many 3 (some .int) rmX7_many [.int (nI X)] μ (fun v μ' => v = some (.int (nI (cnt X.testBit 12))) ∧ μ = μ') := by
  refine am_Ct.of (ls := [some (.int (nI X)), none, none]) (by decide) (Nat.le_of_ble_eq_true rfl) rfl (fun C fx hnm => ?_)
  refine am_iconst (v := 0) fx dX7_many_0 (by decide) ?_
  refine am_istore_n fx dX7_many_1 (by decide) rfl ?_
  refine am_iconst (v := 0) fx dX7_many_2 (by decide) ?_
  refine am_istore_n fx dX7_many_3 (by decide) rfl ?_
  have lp4 : ∀ (mz : Nat) (r : Nat), 12 - r = mz → r ≤ 12 → am_W E C (am_MQ E C (fun v μ' => v = some (.int (nI (cnt X.testBit 12))) ∧ μ = μ') (rmX7_many).cells (rmX7_many).slots) μ 0 0 4 [some (.int (nI X)), some (.int (nI (cnt X.testBit r))), some (.int (nI r))] [] := by
    intro mz
    induction mz using Nat.strongRecOn with
    | ind mz ih =>
      intro r hz hr
      refine am_iload_n fx dX7_many_4 rfl ?_
      refine am_bipush (v := (nI 12)) fx dX7_many_5 (by decide) ?_
      refine am_icmp_ge fx 24 dX7_many_7 (by decide) (fun c7 => ?_) (fun c7 => ?_)
      · try simp (disch := omega) only [bz_0, Classical.not_not, Int32.not_le, Int32.not_lt, Nat.not_le, Nat.not_lt, nI_leI, nI_ltI, nI_eq, nI_le0, nI_lt0] at c7
        refine am_iload_n fx dX7_many_24 rfl ?_
        exact am_iret fx dX7_many_25 ⟨by rw [show (12 : Nat) = r by omega], rfl⟩
      · try simp (disch := omega) only [bz_0, Classical.not_not, Int32.not_le, Int32.not_lt, Nat.not_le, Nat.not_lt, nI_leI, nI_ltI, nI_eq, nI_le0, nI_lt0] at c7
        refine am_iload_n fx dX7_many_10 rfl ?_
        refine am_iload_n fx dX7_many_11 rfl ?_
        refine am_iload_n fx dX7_many_12 rfl ?_
        refine am_ishr fx dX7_many_13 ?_
        refine am_iconst (v := 1) fx dX7_many_14 (by decide) ?_
        refine am_iand fx dX7_many_15 ?_
        refine am_topi (sh_bit (by omega) (by omega)) ?_
        refine am_iadd fx dX7_many_16 ?_
        refine am_topi (show _ = nI (cnt X.testBit (r + 1)) from nI_add _ _) ?_
        refine am_istore_n fx dX7_many_17 (by decide) rfl ?_
        first | refine am_iinc fx dX7_many_18 rfl (nI_inc _) (by decide) rfl ?_ | refine am_iinc fx dX7_many_18 rfl rfl (by decide) rfl ?_
        refine am_goto fx 4 dX7_many_21 (by decide) ?_
        exact ih (12 - (r + 1)) (by omega) (r + 1) rfl (by omega)
  exact lp4 _ 0 rfl (Nat.zero_le _)
set_option maxRecDepth 100000 in
set_option maxHeartbeats 4000000 in
theorem ct_X7_isAhead {E : am_E} {μ : am_M} {X Y : Nat} (hX : X < 4096) (hY : Y < 4096) : am_Ct E yX7_isAhead cX7_isAhead 3 (some .boolean) rmX7_isAhead [.int (nI X), .int (nI Y)] μ (fun v μ' => v = some (.int (bz (rcF Y.testBit 12 < rcF X.testBit 12))) ∧ μ = μ') := by
  refine am_Ct.of (ls := [some (.int (nI X)), some (.int (nI Y)), none]) (by decide) (Nat.le_of_ble_eq_true rfl) rfl (fun C fx hnm => ?_)
  refine am_iload_n fx dX7_isAhead_0 rfl ?_
  refine am_iload_n fx dX7_isAhead_1 rfl ?_
  refine am_ixor fx dX7_isAhead_2 ?_
  refine am_istore_n fx dX7_isAhead_3 (by decide) rfl ?_
  refine am_iload_n fx dX7_isAhead_4 rfl ?_
  refine am_iload_n fx dX7_isAhead_5 rfl ?_
  refine am_iand fx dX7_isAhead_6 ?_
  refine am_iload_n fx dX7_isAhead_7 rfl ?_
  refine am_ineg fx dX7_isAhead_8 ?_
  refine am_iand fx dX7_isAhead_9 ?_
  refine am_if_eq fx 17 dX7_isAhead_10 (by decide) (fun c10 => ?_) (fun c10 => ?_)
  · skip
    have c10 := (ah_iff hX hY).mp c10
    refine am_iconst (v := 0) fx dX7_isAhead_17 (by decide) ?_
    exact am_zret fx dX7_isAhead_18 (by first | exact Or.inl rfl | exact Or.inr rfl | exact bz_01) ⟨by rw [← bz_f c10], rfl⟩
  · skip
    have c10 := Classical.not_not.mp (fun z => c10 ((ah_iff hX hY).mpr z))
    refine am_iconst (v := 1) fx dX7_isAhead_13 (by decide) ?_
    refine am_goto fx 18 dX7_isAhead_14 (by decide) ?_
    exact am_zret fx dX7_isAhead_18 (by first | exact Or.inl rfl | exact Or.inr rfl | exact bz_01) ⟨by rw [← bz_t c10], rfl⟩
set_option maxRecDepth 100000 in
set_option maxHeartbeats 4000000 in
theorem ct_X7_leastOf {E : am_E} {μ : am_M} (hb : Bs μ) {S N : Nat} {cs : Nat → Nat → Int32} (hm : Mt μ S N cs) {X : Nat} (hX : X < 4096) (i : Nat) (hi : i < 24) : am_Ct E yX7_leastOf cX7_leastOf 5 (some .int) rmX7_leastOf [.ref 46, .int (nI X), .int (nI i)] μ (fun v μ' => v = some (.int (lfM X.testBit (fun s => cs s i) S)) ∧ μ = μ') := by
  refine am_Ct.of (ls := [some (.ref 46), some (.int (nI X)), some (.int (nI i)), none, none]) (by decide) (Nat.le_of_ble_eq_true rfl) rfl (fun C fx hnm => ?_)
  have hS := hm.s
  have hN := hm.n
  refine am_ldc fx dX7_leastOf_0 kdX7_64 ?_
  refine am_istore_n fx dX7_leastOf_2 (by decide) rfl ?_
  refine am_iconst (v := 0) fx dX7_leastOf_3 (by decide) ?_
  refine am_istore fx dX7_leastOf_4 (by decide) rfl ?_
  have lp6 : ∀ (mz : Nat) (r : Nat), S - r = mz → r ≤ S → am_W E C (am_MQ E C (fun v μ' => v = some (.int (lfM X.testBit (fun s => cs s i) S)) ∧ μ = μ') (rmX7_leastOf).cells (rmX7_leastOf).slots) μ 0 0 6 [some (.ref 46), some (.int (nI X)), some (.int (nI i)), some (.int (lfM X.testBit (fun s => cs s i) r)), some (.int (nI r))] [] := by
    intro mz
    induction mz using Nat.strongRecOn with
    | ind mz ih =>
      intro r hz hr
      refine am_iload fx dX7_leastOf_6 rfl ?_
      refine am_aload_n fx dX7_leastOf_8 rfl ?_
      refine am_getI fx dX7_leastOf_9 fkX7_46 (by decide) (by decide) rfl (so7 hb) hm.1 ?_
      refine am_icmp_ge fx 54 dX7_leastOf_12 (by decide) (fun c12 => ?_) (fun c12 => ?_)
      · try simp (disch := omega) only [bz_0, Classical.not_not, Int32.not_le, Int32.not_lt, Nat.not_le, Nat.not_lt, nI_leI, nI_ltI, nI_eq, nI_le0, nI_lt0] at c12
        refine am_iload_n fx dX7_leastOf_54 rfl ?_
        exact am_iret fx dX7_leastOf_55 ⟨by rw [show S = r by omega], rfl⟩
      · try simp (disch := omega) only [bz_0, Classical.not_not, Int32.not_le, Int32.not_lt, Nat.not_le, Nat.not_lt, nI_leI, nI_ltI, nI_eq, nI_le0, nI_lt0] at c12
        refine am_iload_n fx dX7_leastOf_15 rfl ?_
        refine am_iload fx dX7_leastOf_16 rfl ?_
        refine am_ishr fx dX7_leastOf_18 ?_
        refine am_iconst (v := 1) fx dX7_leastOf_19 (by decide) ?_
        refine am_iand fx dX7_leastOf_20 ?_
        refine am_topi (sh_bit (by omega) (by omega)) ?_
        refine am_iconst (v := 1) fx dX7_leastOf_21 (by decide) ?_
        refine am_icmp_ne fx 46 dX7_leastOf_22 (by decide) (fun c22 => ?_) (fun c22 => ?_)
        · skip
          have c22 : ¬ X.testBit r = true := fun z => c22 (by rw [z]; rfl)
          refine am_iload_n fx dX7_leastOf_46 rfl ?_
          refine am_topi (show _ = lfM X.testBit (fun s => cs s i) (r + 1) by rw [lfM, if_neg (fun z => c22 z.1)]) ?_
          refine am_istore_n fx dX7_leastOf_47 (by decide) rfl ?_
          first | refine am_iinc fx dX7_leastOf_48 rfl (nI_inc _) (by decide) rfl ?_ | refine am_iinc fx dX7_leastOf_48 rfl rfl (by decide) rfl ?_
          refine am_goto fx 6 dX7_leastOf_51 (by decide) ?_
          exact ih (S - (r + 1)) (by omega) (r + 1) rfl (by omega)
        · skip
          have c22 : X.testBit r = true := by
            cases hq : X.testBit r with
            | true => rfl
            | false =>
              rw [hq] at c22
              exact absurd c22 (by decide)
          refine am_aload_n fx dX7_leastOf_25 rfl ?_
          refine am_iload fx dX7_leastOf_26 rfl ?_
          refine am_iload_n fx dX7_leastOf_28 rfl ?_
          refine am_callV fx dX7_leastOf_29 mkX7_65 (ct_X7_costAt hb hm r i (by omega) hi) (so7 hb) ⟨by decide, rfl⟩ rfl (Nat.le_of_ble_eq_true rfl) ⟨by decide, by decide⟩ ⟨Nat.le_of_ble_eq_true rfl, Nat.le_of_ble_eq_true rfl⟩ rfl ?_
          rintro _ _ ⟨rfl, rfl⟩
          refine am_iload_n fx dX7_leastOf_32 rfl ?_
          refine am_icmp_ge fx 46 dX7_leastOf_33 (by decide) (fun c33 => ?_) (fun c33 => ?_)
          · skip
            refine am_iload_n fx dX7_leastOf_46 rfl ?_
            refine am_topi (show _ = lfM X.testBit (fun s => cs s i) (r + 1) by rw [lfM, if_neg (fun z => Int32.not_lt.mpr c33 z.2)]) ?_
            refine am_istore_n fx dX7_leastOf_47 (by decide) rfl ?_
            first | refine am_iinc fx dX7_leastOf_48 rfl (nI_inc _) (by decide) rfl ?_ | refine am_iinc fx dX7_leastOf_48 rfl rfl (by decide) rfl ?_
            refine am_goto fx 6 dX7_leastOf_51 (by decide) ?_
            exact ih (S - (r + 1)) (by omega) (r + 1) rfl (by omega)
          · skip
            have c33 := Int32.not_le.mp c33
            refine am_aload_n fx dX7_leastOf_36 rfl ?_
            refine am_iload fx dX7_leastOf_37 rfl ?_
            refine am_iload_n fx dX7_leastOf_39 rfl ?_
            refine am_callV fx dX7_leastOf_40 mkX7_65 (ct_X7_costAt hb hm r i (by omega) hi) (so7 hb) ⟨by decide, rfl⟩ rfl (Nat.le_of_ble_eq_true rfl) ⟨by decide, by decide⟩ ⟨Nat.le_of_ble_eq_true rfl, Nat.le_of_ble_eq_true rfl⟩ rfl ?_
            rintro _ _ ⟨rfl, rfl⟩
            refine am_topi (show _ = lfM X.testBit (fun s => cs s i) (r + 1) by rw [lfM, if_pos ⟨c22, c33⟩]) ?_
            refine am_goto fx 47 dX7_leastOf_43 (by decide) ?_
            skip
            refine am_istore_n fx dX7_leastOf_47 (by decide) rfl ?_
            first | refine am_iinc fx dX7_leastOf_48 rfl (nI_inc _) (by decide) rfl ?_ | refine am_iinc fx dX7_leastOf_48 rfl rfl (by decide) rfl ?_
            refine am_goto fx 6 dX7_leastOf_51 (by decide) ?_
            exact ih (S - (r + 1)) (by omega) (r + 1) rfl (by omega)
  exact lp6 _ 0 rfl (Nat.zero_le _)
