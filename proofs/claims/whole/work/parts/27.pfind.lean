theorem kk_lt0 : ∀ kk, kk < 25 → (nI kk - 1 < 0 ↔ kk = 0) := by decide
theorem nI_m1m1g {n : Nat} (h : 0 < n) : nI n - 1 + Int32.ofInt (-1) = nI (n - 1) - 1 := by
  rw [nI_pred1 h, Int32.sub_eq_add_neg]
  rfl
set_option maxRecDepth 100000 in
set_option maxHeartbeats 4000000 in
theorem ct_X1_lastThatCanRise {E : am_E} {μ : am_M} (hb : Bs μ) {k m : Nat} (hk : mm_I μ 25 5 = nI k) (hm : mm_I μ 25 4 = nI m) (hkm : k ≤ m) (hm12 : m ≤ 12) (p : Nat → Nat) (hP : ∀ j, j < k → mm_I μ 27 j = nI (p j)) (hpm : ∀ j, j < k → p j < m) : am_Ct E yX1_lastThatCanRise cX1_lastThatCanRise 2 (some .int) rmX1_lastThatCanRise [.ref 25] μ (fun v μ' => ((∃ d, v = some (.int (nI d)) ∧ d < k ∧ p d + (k - d) < m ∧ ∀ j, d < j → j < k → m ≤ p j + (k - j)) ∨ (v = some (.int (-1)) ∧ ∀ j, j < k → m ≤ p j + (k - j))) ∧ μ = μ') := by
  refine am_Ct.of (ls := [some (.ref 25), none]) (by decide) (Nat.le_of_ble_eq_true rfl) rfl (fun C fx hnm => ?_)
  refine am_aload_n fx dX1_lastThatCanRise_0 rfl ?_
  refine am_getI fx dX1_lastThatCanRise_1 fkX1_30 (by decide) (by decide) rfl (so1 hb) hk ?_
  refine am_iconst (v := 1) fx dX1_lastThatCanRise_4 (by decide) ?_
  refine am_isub fx dX1_lastThatCanRise_5 ?_
  refine am_istore_n fx dX1_lastThatCanRise_6 (by decide) rfl ?_
  have lp7 : ∀ (mz : Nat) (kk : Nat), kk = mz → (kk ≤ k ∧ ∀ j, kk ≤ j → j < k → m ≤ p j + (k - j)) → am_W E C (am_MQ E C (fun v μ' => ((∃ d, v = some (.int (nI d)) ∧ d < k ∧ p d + (k - d) < m ∧ ∀ j, d < j → j < k → m ≤ p j + (k - j)) ∨ (v = some (.int (-1)) ∧ ∀ j, j < k → m ≤ p j + (k - j))) ∧ μ = μ') (rmX1_lastThatCanRise).cells (rmX1_lastThatCanRise).slots) μ 0 0 7 [some (.ref 25), some (.int (nI kk - 1))] [] := by
    intro mz
    induction mz using Nat.strongRecOn with
    | ind mz ih =>
      intro kk hz hI
      obtain ⟨hkk, hno⟩ := hI
      refine am_iload_n fx dX1_lastThatCanRise_7 rfl ?_
      refine am_if_lt fx 39 dX1_lastThatCanRise_8 (by decide) (fun c8 => ?_) (fun c8 => ?_)
      · skip
        have c8 := (kk_lt0 kk (by omega)).mp c8
        refine am_iconst (v := (-1)) fx dX1_lastThatCanRise_39 (by decide) ?_
        exact am_iret fx dX1_lastThatCanRise_40 ⟨Or.inr ⟨rfl, fun j hj => hno j (by omega) hj⟩, rfl⟩
      · skip
        have c8 : 0 < kk := by
          rcases Nat.eq_zero_or_pos kk with z | z
          · exact absurd ((kk_lt0 kk (by omega)).mpr z) c8
          · exact z
        have hpk := hpm (kk - 1) (by omega)
        refine am_aload_n fx dX1_lastThatCanRise_11 rfl ?_
        refine am_getR fx dX1_lastThatCanRise_12 fkX1_15 (by decide) (by decide) rfl (so1 hb) (rf1_1 hb) ?_
        refine am_iload_n fx dX1_lastThatCanRise_15 rfl ?_
        refine am_iald  fx dX1_lastThatCanRise_16 (sa1_1 hb) (nI_pred1 (by omega)) (by omega) (by decide) (hP _ (by omega)) ?_
        refine am_aload_n fx dX1_lastThatCanRise_17 rfl ?_
        refine am_getI fx dX1_lastThatCanRise_18 fkX1_26 (by decide) (by decide) rfl (so1 hb) hm ?_
        refine am_aload_n fx dX1_lastThatCanRise_21 rfl ?_
        refine am_getI fx dX1_lastThatCanRise_22 fkX1_30 (by decide) (by decide) rfl (so1 hb) hk ?_
        refine am_isub fx dX1_lastThatCanRise_25 ?_
        refine am_topi (pk_sub hkm) ?_
        refine am_iload_n fx dX1_lastThatCanRise_26 rfl ?_
        refine am_iadd fx dX1_lastThatCanRise_27 ?_
        refine am_topi ((congrArg (fun z => nI (m - k) + z) (nI_pred1 c8)).trans (nI_add _ _)) ?_
        refine am_icmp_ge fx 33 dX1_lastThatCanRise_28 (by decide) (fun c28 => ?_) (fun c28 => ?_)
        · try simp (disch := omega) only [bz_0, Classical.not_not, Int32.not_le, Int32.not_lt, Nat.not_le, Nat.not_lt, nI_leI, nI_ltI, nI_eq, nI_le0, nI_lt0] at c28
          refine am_iinc fx dX1_lastThatCanRise_33 rfl (nI_m1m1g (by omega)) (by decide) rfl ?_
          refine am_goto fx 7 dX1_lastThatCanRise_36 (by decide) ?_
          exact ih (kk - 1) (by omega) (kk - 1) rfl ⟨by omega, fun j h1 h2 => by rcases Nat.lt_or_ge j kk with z | z; rw [show j = kk - 1 by omega]; omega; exact hno j z h2⟩
        · try simp (disch := omega) only [bz_0, Classical.not_not, Int32.not_le, Int32.not_lt, Nat.not_le, Nat.not_lt, nI_leI, nI_ltI, nI_eq, nI_le0, nI_lt0] at c28
          refine am_iload_n fx dX1_lastThatCanRise_31 rfl ?_
          exact am_iret fx dX1_lastThatCanRise_32 ⟨Or.inl ⟨kk - 1, by rw [nI_pred1 c8], by omega, by omega, fun j h1 h2 => hno j (by omega) h2⟩, rfl⟩
  exact lp7 _ k rfl ⟨Nat.le_refl _, fun j h1 h2 => by omega⟩
def Skp (a : Nat) : Prop := a = 25 ∨ a = 28
set_option maxRecDepth 100000 in
set_option maxHeartbeats 4000000 in
theorem ct_X1_keepIfLess {E : am_E} {μ : am_M} (hb : Bs μ) {S N : Nat} (ht : Tb μ S N) {k m : Nat} (hk : mm_I μ 25 5 = nI k) (hm : mm_I μ 25 4 = nI m) (hkm : k ≤ m) (hm12 : m ≤ 12) {wf : Nat → Nat} (hwf : ∀ x, x < m → mm_I μ 26 x = nI (wf x) ∧ wf x < S) (p : Nat → Nat) (hP : ∀ j, j < k → mm_I μ 27 j = nI (p j)) (hpm : ∀ j, j < k → p j < m) : am_Ct E yX1_keepIfLess cX1_keepIfLess 4 none rmX1_keepIfLess [.ref 25, .ref 2] μ (fun v μ' => v = none ∧ Sm Skp μ μ' ∧ (∀ x, x ≠ 6 → mm_I μ' 25 x = mm_I μ 25 x) ∧ (((smQ (lrn μ) (fun i => mm_I μ (30 + k) i) N) < mm_I μ 25 6 ∧ mm_I μ' 25 6 = (smQ (lrn μ) (fun i => mm_I μ (30 + k) i) N) ∧ ∀ j, j < k → mm_I μ' 28 j = nI (wf (p j))) ∨ (mm_I μ 25 6 ≤ (smQ (lrn μ) (fun i => mm_I μ (30 + k) i) N) ∧ μ' = μ))) := by
  refine am_Ct.of (ls := [some (.ref 25), some (.ref 2), none, none]) (by decide) (Nat.le_of_ble_eq_true rfl) rfl (fun C fx hnm => ?_)
  have hS := ht.s
  have hN := ht.n
  refine am_iconst (v := 0) fx dX1_keepIfLess_0 (by decide) ?_
  refine am_istore_n fx dX1_keepIfLess_1 (by decide) rfl ?_
  refine am_iconst (v := 0) fx dX1_keepIfLess_2 (by decide) ?_
  refine am_istore_n fx dX1_keepIfLess_3 (by decide) rfl ?_
  have lp4 : ∀ (mz : Nat) (r : Nat) (x : Int32), N - r = mz → r ≤ N → x = smQ (lrn μ) (fun i => mm_I μ (30 + k) i) r → am_W E C (am_MQ E C (fun v μ' => v = none ∧ Sm Skp μ μ' ∧ (∀ x, x ≠ 6 → mm_I μ' 25 x = mm_I μ 25 x) ∧ (((smQ (lrn μ) (fun i => mm_I μ (30 + k) i) N) < mm_I μ 25 6 ∧ mm_I μ' 25 6 = (smQ (lrn μ) (fun i => mm_I μ (30 + k) i) N) ∧ ∀ j, j < k → mm_I μ' 28 j = nI (wf (p j))) ∨ (mm_I μ 25 6 ≤ (smQ (lrn μ) (fun i => mm_I μ (30 + k) i) N) ∧ μ' = μ))) (rmX1_keepIfLess).cells (rmX1_keepIfLess).slots) μ 0 0 4 [some (.ref 25), some (.ref 2), some (.int x), some (.int (nI r))] [] := by
    intro mz
    induction mz using Nat.strongRecOn with
    | ind mz ih =>
      intro r x hz hr hx
      refine am_iload_n fx dX1_keepIfLess_4 rfl ?_
      refine am_aload_n fx dX1_keepIfLess_5 rfl ?_
      refine am_getI fx dX1_keepIfLess_6 fkX1_82 (by decide) (by decide) rfl (so5 hb) ht.2.1 ?_
      refine am_icmp_ge fx 40 dX1_keepIfLess_9 (by decide) (fun c9 => ?_) (fun c9 => ?_)
      · try simp (disch := omega) only [bz_0, Classical.not_not, Int32.not_le, Int32.not_lt, Nat.not_le, Nat.not_lt, nI_leI, nI_ltI, nI_eq, nI_le0, nI_lt0] at c9
        refine am_iload_n fx dX1_keepIfLess_40 rfl ?_
        refine am_aload_n fx dX1_keepIfLess_41 rfl ?_
        refine am_getI fx dX1_keepIfLess_42 fkX1_33 (by decide) (by decide) rfl (so1 hb) rfl ?_
        refine am_icmp_ge fx 86 dX1_keepIfLess_45 (by decide) (fun c45 => ?_) (fun c45 => ?_)
        · skip
          rw [hx, show r = N by omega] at c45
          exact am_vret fx dX1_keepIfLess_86 ⟨rfl, Sm.rf _ _, fun _ _ => rfl, Or.inr ⟨c45, rfl⟩⟩
        · skip
          have c45 := Int32.not_le.mp c45
          refine am_aload_n fx dX1_keepIfLess_48 rfl ?_
          refine am_iload_n fx dX1_keepIfLess_49 rfl ?_
          refine am_putI fx dX1_keepIfLess_50 fkX1_33 (by decide) (by decide) rfl rfl (so1 hb) ?_
          refine am_iconst (v := 0) fx dX1_keepIfLess_53 (by decide) ?_
          refine am_istore_n fx dX1_keepIfLess_54 (by decide) rfl ?_
          have lp55 : ∀ (mz : Nat) (d : Nat) (ν : am_M), k - d = mz → (d ≤ k ∧ Sm (fun a => a = 28) (mm_sI μ 25 6 x) ν ∧ ∀ j, j < d → mm_I ν 28 j = nI (wf (p j))) → am_W E C (am_MQ E C (fun v μ' => v = none ∧ Sm Skp μ μ' ∧ (∀ x, x ≠ 6 → mm_I μ' 25 x = mm_I μ 25 x) ∧ (((smQ (lrn μ) (fun i => mm_I μ (30 + k) i) N) < mm_I μ 25 6 ∧ mm_I μ' 25 6 = (smQ (lrn μ) (fun i => mm_I μ (30 + k) i) N) ∧ ∀ j, j < k → mm_I μ' 28 j = nI (wf (p j))) ∨ (mm_I μ 25 6 ≤ (smQ (lrn μ) (fun i => mm_I μ (30 + k) i) N) ∧ μ' = μ))) (rmX1_keepIfLess).cells (rmX1_keepIfLess).slots) ν 0 0 55 [some (.ref 25), some (.ref 2), some (.int x), some (.int (nI d))] [] := by
            intro mz
            induction mz using Nat.strongRecOn with
            | ind mz ih2 =>
              intro d ν hz2 hJ
              obtain ⟨hdk, hM, hB⟩ := hJ
              have hb2 : Bs ν := (hb.fr (Fr.sI μ 25 6 x)).fr hM.1
              have he : ∀ a y, a ≠ 28 → (a ≠ 25 ∨ y ≠ 6) → mm_I ν a y = mm_I μ a y := fun a y h1 h2 => (hM.2.1 a y h1).trans (mI_ne h2)
              refine am_iload_n fx dX1_keepIfLess_55 rfl ?_
              refine am_aload_n fx dX1_keepIfLess_56 rfl ?_
              refine am_getI fx dX1_keepIfLess_57 fkX1_30 (by decide) (by decide) rfl (so1 hb2) ((he _ _ (by decide) (Or.inr (by decide))).trans hk) ?_
              refine am_icmp_ge fx 86 dX1_keepIfLess_60 (by decide) (fun c60 => ?_) (fun c60 => ?_)
              · try simp (disch := omega) only [bz_0, Classical.not_not, Int32.not_le, Int32.not_lt, Nat.not_le, Nat.not_lt, nI_leI, nI_ltI, nI_eq, nI_le0, nI_lt0] at c60
                exact am_vret fx dX1_keepIfLess_86 ⟨rfl, (Sm.sI (S := Skp) μ (Or.inl rfl)).tr (hM.mono (fun a h => Or.inr h)), fun y hy => (he 25 y (by decide) (Or.inr hy)), Or.inl ⟨by rw [← show r = N by omega, ← hx]; exact c45, by rw [hM.2.1 25 6 (by decide), mI_same, hx, show r = N by omega], fun j hj => hB j (by omega)⟩⟩
              · try simp (disch := omega) only [bz_0, Classical.not_not, Int32.not_le, Int32.not_lt, Nat.not_le, Nat.not_lt, nI_leI, nI_ltI, nI_eq, nI_le0, nI_lt0] at c60
                refine am_aload_n fx dX1_keepIfLess_63 rfl ?_
                refine am_getR fx dX1_keepIfLess_64 fkX1_18 (by decide) (by decide) rfl (so1 hb2) (rf1_2 hb2) ?_
                refine am_iload_n fx dX1_keepIfLess_67 rfl ?_
                refine am_aload_n fx dX1_keepIfLess_68 rfl ?_
                refine am_getR fx dX1_keepIfLess_69 fkX1_9 (by decide) (by decide) rfl (so1 hb2) (rf1_0 hb2) ?_
                refine am_aload_n fx dX1_keepIfLess_72 rfl ?_
                refine am_getR fx dX1_keepIfLess_73 fkX1_15 (by decide) (by decide) rfl (so1 hb2) (rf1_1 hb2) ?_
                refine am_iload_n fx dX1_keepIfLess_76 rfl ?_
                refine am_iald  fx dX1_keepIfLess_77 (sa1_1 hb2) rfl (by omega) (by decide) ((he _ _ (by decide) (Or.inl (by decide))).trans (hP d (by omega))) ?_
                have hpd := hpm d (by omega)
                refine am_iald  fx dX1_keepIfLess_78 (sa1_0 hb2) rfl (by omega) (by decide) ((he _ _ (by decide) (Or.inl (by decide))).trans (hwf _ hpd).1) ?_
                refine am_iast  fx dX1_keepIfLess_79 (sa1_2 hb2) rfl (by omega) (by decide) ?_
                first | refine am_iinc fx dX1_keepIfLess_80 rfl (nI_inc _) (by decide) rfl ?_ | refine am_iinc fx dX1_keepIfLess_80 rfl rfl (by decide) rfl ?_
                refine am_goto fx 55 dX1_keepIfLess_83 (by decide) ?_
                exact ih2 (k - (d + 1)) (by omega) (d + 1) _ rfl ⟨by omega, hM.tr (Sm.sI (S := fun a => a = 28) _ rfl), fun j hj => by by_cases h : j = d; rw [h, mI_same]; rw [mI_ne (Or.inr h)]; exact hB j (by omega)⟩
          exact lp55 _ 0 _ rfl ⟨by omega, Sm.rf _ _, fun j hj => by omega⟩
      · try simp (disch := omega) only [bz_0, Classical.not_not, Int32.not_le, Int32.not_lt, Nat.not_le, Nat.not_lt, nI_leI, nI_ltI, nI_eq, nI_le0, nI_lt0] at c9
        refine am_aload_n fx dX1_keepIfLess_12 rfl ?_
        refine am_iload_n fx dX1_keepIfLess_13 rfl ?_
        refine am_callV fx dX1_keepIfLess_14 mkX1_88 (ct_X5_isLearning hb ht _ (by assumption)) (so5 hb) ⟨by decide, rfl⟩ rfl (Nat.le_of_ble_eq_true rfl) ⟨by decide, by decide⟩ ⟨Nat.le_of_ble_eq_true rfl, Nat.le_of_ble_eq_true rfl⟩ rfl ?_
        rintro _ _ ⟨rfl, rfl⟩
        refine am_if_eq fx 34 dX1_keepIfLess_17 (by decide) (fun c17 => ?_) (fun c17 => ?_)
        · try simp (disch := omega) only [bz_0, Classical.not_not, Int32.not_le, Int32.not_lt, Nat.not_le, Nat.not_lt, nI_leI, nI_ltI, nI_eq, nI_le0, nI_lt0] at c17
          first | refine am_iinc fx dX1_keepIfLess_34 rfl (nI_inc _) (by decide) rfl ?_ | refine am_iinc fx dX1_keepIfLess_34 rfl rfl (by decide) rfl ?_
          refine am_goto fx 4 dX1_keepIfLess_37 (by decide) ?_
          exact ih (N - (r + 1)) (by omega) (r + 1) _ rfl (by omega) (by rw [hx]; simp only [smQ]; rw [if_neg (show ¬ lrn μ r = true by simp [lrn, c17]), Int32.add_zero])
        · try simp (disch := omega) only [bz_0, Classical.not_not, Int32.not_le, Int32.not_lt, Nat.not_le, Nat.not_lt, nI_leI, nI_ltI, nI_eq, nI_le0, nI_lt0] at c17
          refine am_iload_n fx dX1_keepIfLess_20 rfl ?_
          refine am_aload_n fx dX1_keepIfLess_21 rfl ?_
          refine am_getR fx dX1_keepIfLess_22 fkX1_23 (by decide) (by decide) rfl (so1 hb) (rf1_3 hb) ?_
          refine am_aload_n fx dX1_keepIfLess_25 rfl ?_
          refine am_getI fx dX1_keepIfLess_26 fkX1_30 (by decide) (by decide) rfl (so1 hb) hk ?_
          refine am_aald  fx dX1_keepIfLess_29 (sa1_3 hb) rfl (by omega) (by decide) (rg1_3 hb (by omega)) ?_
          refine am_iload_n fx dX1_keepIfLess_30 rfl ?_
          refine am_iald  fx dX1_keepIfLess_31 (sg1_3 hb (by omega)) rfl (by omega) (by decide) rfl ?_
          refine am_iadd fx dX1_keepIfLess_32 ?_
          refine am_istore_n fx dX1_keepIfLess_33 (by decide) rfl ?_
          first | refine am_iinc fx dX1_keepIfLess_34 rfl (nI_inc _) (by decide) rfl ?_ | refine am_iinc fx dX1_keepIfLess_34 rfl rfl (by decide) rfl ?_
          refine am_goto fx 4 dX1_keepIfLess_37 (by decide) ?_
          exact ih (N - (r + 1)) (by omega) (r + 1) _ rfl (by omega) (by rw [hx]; simp only [smQ]; rw [if_pos (show lrn μ r = true by simp [lrn, c17])])
  exact lp4 _ 0 _ rfl (by omega) rfl
/-- the sum of a set of places -/
def sumP (lr : Nat → Bool) (cs : Nat → Nat → Int32) (wf : Nat → Nat) (k N : Nat) (p : Nat → Nat) : Int32 := smQ lr (fun i => mnF (fun j => cs (wf (p j)) i) k) N
theorem sumP_eq {lr : Nat → Bool} {cs : Nat → Nat → Int32} {wf : Nat → Nat} {k N : Nat} {y p : Nat → Nat} (h : eqK k y p) : sumP lr cs wf k N y = sumP lr cs wf k N p := smQ_congr (fun i _ => ⟨rfl, fun _ => mnF_congr (fun j hj => by rw [h j hj])⟩)
/-- best of the sets that are before p -/
def Bef (sm : (Nat → Nat) → Int32) (m k : Nat) (least : Int32) (b p : Nat → Nat) : Prop := (∀ y, inc m k y → lexF k y p → least ≤ sm y ∧ (sm y = least → ¬ lexF k y b)) ∧ ((least = 2147483647 ∧ ∀ y, inc m k y → ¬ lexF k y p) ∨ (inc m k b ∧ sm b = least ∧ lexF k b p))
def Fnl (sm : (Nat → Nat) → Int32) (m k : Nat) (least : Int32) (b : Nat → Nat) : Prop := inc m k b ∧ sm b = least ∧ ∀ y, inc m k y → least ≤ sm y ∧ (sm y = least → ¬ lexF k y b)
theorem Bef.up {sm : (Nat → Nat) → Int32} {m k : Nat} {least : Int32} {b p : Nat → Nat} (heq : ∀ y z, eqK k y z → sm y = sm z) (h : Bef sm m k least b p) (hp : inc m k p) (hlt : sm p < 2147483647) : ∃ b', inc m k b' ∧ sm b' = (if sm p < least then sm p else least) ∧ (sm p < least → b' = p) ∧ (¬ sm p < least → b' = b) ∧ (lexF k b' p ∨ eqK k b' p) ∧ ∀ y, inc m k y → (lexF k y p ∨ eqK k y p) → (if sm p < least then sm p else least) ≤ sm y ∧ (sm y = (if sm p < least then sm p else least) → ¬ lexF k y b') := by
  obtain ⟨h1, h2⟩ := h
  by_cases q : sm p < least
  · rw [if_pos q]
    refine ⟨p, hp, rfl, fun _ => rfl, fun z => absurd q z, Or.inr (fun _ _ => rfl), fun y hy hyp => ?_⟩
    rcases hyp with z | z
    · have := (h1 y hy z).1
      have h3 : sm p < sm y := Int32.lt_of_lt_of_le q this
      exact ⟨Int32.le_of_lt h3, fun e => absurd (e ▸ h3) Int32.lt_irrefl⟩
    · rw [heq y p z]
      exact ⟨Int32.le_refl _, fun _ hl => lexF_eq z hl⟩
  · rw [if_neg q]
    rcases h2 with h2 | ⟨h2, h3, h4⟩
    · rw [h2.1] at q
      exact absurd hlt q
    · refine ⟨b, h2, h3, fun z => absurd z q, fun _ => rfl, Or.inl h4, fun y hy hyp => ?_⟩
      rcases hyp with z | z
      · exact h1 y hy z
      · rw [heq y p z]
        exact ⟨Int32.not_lt.mp q, fun _ hl => lexF_asym (lexF_eql (eqK_symm z) hl) h4⟩
theorem pf_sum {μ ν : am_M} {S N k : Nat} {wf p : Nat → Nat} (hd : ∀ x y, ¬ Spf x → mm_I ν x y = mm_I μ x y) (hPL : PL ν N wf p k k) (hw : ∀ j, j < k → wf (p j) < S) (hS : S ≤ 12) (hN : N ≤ 24) : smQ (lrn ν) (fun i => mm_I ν (30 + k) i) N = (sumP (lrn μ) (fun s i => mm_I μ (4 + s) i) wf k N) p := by
  unfold sumP
  refine smQ_congr (fun i hi => ⟨?_, fun _ => ?_⟩)
  · show decide (¬ mm_I ν 20 i = 0) = decide (¬ mm_I μ 20 i = 0)
    rw [hd 20 i (by unfold Spf; omega)]
  · show mm_I ν (30 + k) i = _
    rw [hPL.2 k i (Nat.le_refl k) hi]
    exact mnF_congr (fun j hj => hd _ _ (by have := hw j hj; unfold Spf; omega))
theorem pf_low {ν ν4 : am_M} {S N k d : Nat} {wf p : Nat → Nat} (hS4 : Sm Skp ν ν4) (hPL : PL ν N wf p k k) (hw : ∀ j, j < k → wf (p j) < S) (hS : S ≤ 12) (hd : d < k ∧ k ≤ 12) : PL ν4 N wf p d d := by
  refine ⟨fun j hj => (hS4.2.1 27 j (by unfold Skp; omega)).trans (hPL.1 j (by omega)), fun e i he hi => ?_⟩
  rw [hS4.2.1 (30 + e) i (by unfold Skp; omega), hPL.2 e i (by omega) hi]
  exact mnF_congr (fun j hj => (hS4.2.1 _ _ (by have := hw j (by omega); unfold Skp; omega)).symm)
set_option maxRecDepth 100000 in
set_option maxHeartbeats 4000000 in
theorem ct_X1_find {E : am_E} {μ : am_M} (hb : Bs μ) {S N : Nat} (ht : Tb μ S N) (k : Nat) (hk1 : 1 ≤ k) (hkm : k ≤ (cnt (whB μ N) S)) (hsum : ∀ wf p, (∀ x, x < (cnt (whB μ N) S) → wf x < S ∧ (whB μ N) (wf x) = true ∧ cnt (whB μ N) (wf x) = x) → inc (cnt (whB μ N) S) k p → (sumP (lrn μ) (fun s i => mm_I μ (4 + s) i) wf k N) p < 2147483647) : am_Ct E yX1_find cX1_find 5 none rmX1_find [.ref 25, .ref 2, .int (nI k)] μ (fun v μ' => v = none ∧ Sm Spf μ μ' ∧ ∃ (wf b : Nat → Nat), (∀ x, x < (cnt (whB μ N) S) → wf x < S ∧ (whB μ N) (wf x) = true ∧ cnt (whB μ N) (wf x) = x) ∧ mm_I μ' 25 5 = nI k ∧ Fnl (sumP (lrn μ) (fun s i => mm_I μ (4 + s) i) wf k N) (cnt (whB μ N) S) k (mm_I μ' 25 6) b ∧ ∀ j, j < k → mm_I μ' 28 j = nI (wf (b j))) := by
  refine am_Ct.of (ls := [some (.ref 25), some (.ref 2), some (.int (nI k)), none, none]) (by decide) (Nat.le_of_ble_eq_true rfl) rfl (fun C fx hnm => ?_)
  have hS := ht.s
  have hN := ht.n
  have hcS := cnt_le (whB μ N) S
  obtain ⟨wf, hwf0⟩ : ∃ wf : Nat → Nat, ∀ x, x < (cnt (whB μ N) S) → fil (whB μ N) (mm_I μ 26) S x = nI (wf x) ∧ wf x < S ∧ (whB μ N) (wf x) = true ∧ cnt (whB μ N) (wf x) = x := by
    refine ⟨fun x => if h : x < (cnt (whB μ N) S) then Classical.choose (fil_in (whB μ N) (mm_I μ 26) S x h) else 0, fun x hx => ?_⟩
    simp only [dif_pos hx]
    obtain ⟨a1, a2, a3, a4⟩ := Classical.choose_spec (fil_in (whB μ N) (mm_I μ 26) S x hx)
    exact ⟨a3, a1, a2, a4⟩
  refine am_aload_n fx dX1_find_0 rfl ?_
  refine am_aload_n fx dX1_find_1 rfl ?_
  refine am_callV fx dX1_find_2 mkX1_36 (ct_X1_gatherWhole hb ht) (so1 hb) ⟨by decide, rfl⟩ rfl (Nat.le_of_ble_eq_true rfl) ⟨by decide, by decide⟩ ⟨Nat.le_of_ble_eq_true rfl, Nat.le_of_ble_eq_true rfl⟩ rfl ?_
  rintro _ _ ⟨rfl, rfl⟩
  have hb1 : Bs (mm_sI (mm_fI μ 26 (fil (whB μ N) (mm_I μ 26) S)) 25 4 (nI (cnt (whB μ N) S))) := hb.fr ⟨rfl, rfl, rfl⟩
  refine am_aload_n fx dX1_find_5 rfl ?_
  refine am_iconst (v := 0) fx dX1_find_6 (by decide) ?_
  refine am_iload_n fx dX1_find_7 rfl ?_
  refine am_aload_n fx dX1_find_8 rfl ?_
  refine am_getI fx dX1_find_9 fkX1_26 (by decide) (by decide) rfl (so1 hb1) (mI_same _ _ _ _) ?_
  refine am_mmin fx dX1_find_12 moX1_40 kw_smin knJ9 kw_cmin ⟨by decide, Nat.le_of_ble_eq_true rfl, Nat.le_of_ble_eq_true rfl, Nat.le_of_ble_eq_true rfl⟩ ((nI_min (by omega) (by omega)).trans (show nI (min k (cnt (whB μ N) S)) = nI k by rw [Nat.min_eq_left hkm])) ?_
  refine am_mmax fx dX1_find_15 moX1_46 kw_smax knJ9 kw_cmax ⟨by decide, Nat.le_of_ble_eq_true rfl, Nat.le_of_ble_eq_true rfl, Nat.le_of_ble_eq_true rfl⟩ (show (if (0 : Int32) < nI k then nI k else 0) = nI k by rw [if_pos (show (0 : Int32) < nI k from nI_lt (a := 0) (b := k) (by omega) (by omega))]) ?_
  refine am_putI fx dX1_find_18 fkX1_30 (by decide) (by decide) rfl rfl (so1 hb1) ?_
  refine am_aload_n fx dX1_find_21 rfl ?_
  refine am_ldc fx dX1_find_22 kdX1_51 ?_
  refine am_putI fx dX1_find_24 fkX1_33 (by decide) (by decide) rfl rfl (so1 hb1) ?_
  refine am_aload_n fx dX1_find_27 rfl ?_
  refine am_getR fx dX1_find_28 fkX1_23 (by decide) (by decide) rfl (so1 hb1) (rf1_3 hb1) ?_
  refine am_iconst (v := 0) fx dX1_find_31 (by decide) ?_
  refine am_aald (j := 0) fx dX1_find_32 (sa1_3 hb1) rfl (by omega) (by decide) (rg1_3 hb1 (j := 0) (by omega)) ?_
  refine am_ldc fx dX1_find_33 kdX1_52 ?_
  refine am_callS fx dX1_find_35 mkX1_53 (ct_J7_fill_53178 (μ := (mm_sI (mm_sI (mm_sI (mm_fI μ 26 (fil (whB μ N) (mm_I μ 26) S)) 25 4 (nI (cnt (whB μ N) S))) 25 5 (nI k)) 25 6 2147483647)) (a := 30 + 0) (sg1_3 hb1 (j := 0) (by omega)) (by decide) _) rfl (Nat.le_of_ble_eq_true rfl) ⟨by decide, by decide⟩ ⟨Nat.le_of_ble_eq_true rfl, Nat.le_of_ble_eq_true rfl⟩ rfl ?_
  rintro _ _ ⟨rfl, rfl⟩
  generalize hν9 : mm_fI (mm_sI (mm_sI (mm_sI (mm_fI μ 26 (fil (whB μ N) (mm_I μ 26) S)) 25 4 (nI (cnt (whB μ N) S))) 25 5 (nI k)) 25 6 2147483647) (30 + 0) (flI 2000000 (mm_I (mm_sI (mm_sI (mm_sI (mm_fI μ 26 (fil (whB μ N) (mm_I μ 26) S)) 25 4 (nI (cnt (whB μ N) S))) 25 5 (nI k)) 25 6 2147483647) (30 + 0)) 24) = ν9
  have e9 : ∀ a y, a ≠ 30 → mm_I ν9 a y = mm_I (mm_sI (mm_sI (mm_sI (mm_fI μ 26 (fil (whB μ N) (mm_I μ 26) S)) 25 4 (nI (cnt (whB μ N) S))) 25 5 (nI k)) 25 6 2147483647) a y := fun a y h => by rw [← hν9]; exact mI_fIn h
  have hM0 : Sm Spf μ ν9 := by
    rw [← hν9]
    exact ((Sm.fI (S := Spf) μ (a := 26) (Or.inr (Or.inl (by omega)))).tr ((Sm.sI (S := Spf) _ (Or.inl rfl)).tr ((Sm.sI (S := Spf) _ (Or.inl rfl)).tr (Sm.sI (S := Spf) _ (Or.inl rfl))))).tr (Sm.fI (S := Spf) _ (a := 30 + 0) (Or.inr (Or.inr (by omega))))
  have hb9 : Bs ν9 := hb.fr hM0.1
  have ht9 : Tb ν9 S N := ht.keep (hM0.2.1 2 4 (by unfold Spf; omega)) (hM0.2.1 2 5 (by unfold Spf; omega))
  have h5a : mm_I ν9 25 5 = nI k := (e9 25 5 (by decide)).trans ((mI_ne (Or.inr (by decide))).trans (mI_same _ _ _ _))
  have h6a : mm_I ν9 25 6 = 2147483647 := (e9 25 6 (by decide)).trans (mI_same _ _ _ _)
  have h4a : mm_I ν9 25 4 = nI (cnt (whB μ N) S) := (e9 25 4 (by decide)).trans ((mI_ne (Or.inr (by decide))).trans ((mI_ne (Or.inr (by decide))).trans (mI_same _ _ _ _)))
  have h26a : ∀ x, mm_I ν9 26 x = fil (whB μ N) (mm_I μ 26) S x := fun x => (e9 26 x (by decide)).trans ((mI_ne (Or.inl (by decide))).trans ((mI_ne (Or.inl (by decide))).trans ((mI_ne (Or.inl (by decide))).trans (mI_fIs _ _ _ _))))
  have h30 : ∀ i, i < N → mm_I ν9 (30 + 0) i = 2000000 := fun i hi => by rw [← hν9, mI_fIs, flI, if_pos (by omega)]
  have pf_first : ∀ y, inc (cnt (whB μ N) S) k y → ¬ lexF k y (fun j => if j < 0 then (0 : Nat) else 0 + (j - 0)) := fun y hy hl => by
    obtain ⟨d, q1, q2, q3⟩ := hl
    have := hy.gap (i := 0) (j := d) (by omega) q1
    simp at q3
    omega
  refine am_aload_n fx dX1_find_38 rfl ?_
  refine am_aload_n fx dX1_find_39 rfl ?_
  refine am_iconst (v := 0) fx dX1_find_40 (by decide) ?_
  refine am_iconst (v := 0) fx dX1_find_41 (by decide) ?_
  refine am_callV fx dX1_find_42 mkX1_59 (ct_X1_placeFrom hb9 ht9 (k := k) (m := (cnt (whB μ N) S)) h5a h4a hkm (by omega) (wf := wf) (fun x hx => ⟨(h26a x).trans (hwf0 x hx).1, (hwf0 x hx).2.1⟩) 0 0 (fun _ => 0) (by omega) (by omega) (fun j hj => by omega) ⟨fun j hj => by omega, fun d i h1 h2 => by rw [show d = 0 by omega]; exact h30 i h2⟩) (so1 hb9) ⟨by decide, rfl⟩ rfl (Nat.le_of_ble_eq_true rfl) ⟨by decide, by decide⟩ ⟨Nat.le_of_ble_eq_true rfl, Nat.le_of_ble_eq_true rfl⟩ rfl ?_
  rintro _ ν0 ⟨rfl, hS0, hP0⟩
  refine am_iconst (v := 0) fx dX1_find_45 (by decide) ?_
  refine am_istore_n fx dX1_find_46 (by decide) rfl ?_
  refine am_iconst (v := 0) fx dX1_find_47 (by decide) ?_
  refine am_istore fx dX1_find_48 (by decide) rfl ?_
  have lp50 : ∀ (mz : Nat) (t : Nat) (x3 : Int32) (ν : am_M) (p : Nat → Nat), 4097 - t = mz → (t ≤ 4096 ∧ Sm Spf μ ν ∧ mm_I ν 25 5 = nI k ∧ mm_I ν 25 4 = nI (cnt (whB μ N) S) ∧ (∀ x, x < (cnt (whB μ N) S) → mm_I ν 26 x = nI (wf x)) ∧ ((¬ x3 = -1 ∧ t + rcF (prt p k) 12 ≤ 4095 ∧ inc (cnt (whB μ N) S) k p ∧ PL ν N wf p k k ∧ (∃ b, Bef (sumP (lrn μ) (fun s i => mm_I μ (4 + s) i) wf k N) (cnt (whB μ N) S) k (mm_I ν 25 6) b p ∧ (mm_I ν 25 6 = 2147483647 ∨ ∀ j, j < k → mm_I ν 28 j = nI (wf (b j))))) ∨ (x3 = -1 ∧ ∃ b, Fnl (sumP (lrn μ) (fun s i => mm_I μ (4 + s) i) wf k N) (cnt (whB μ N) S) k (mm_I ν 25 6) b ∧ ∀ j, j < k → mm_I ν 28 j = nI (wf (b j))))) → am_W E C (am_MQ E C (fun v μ' => v = none ∧ Sm Spf μ μ' ∧ ∃ (wf b : Nat → Nat), (∀ x, x < (cnt (whB μ N) S) → wf x < S ∧ (whB μ N) (wf x) = true ∧ cnt (whB μ N) (wf x) = x) ∧ mm_I μ' 25 5 = nI k ∧ Fnl (sumP (lrn μ) (fun s i => mm_I μ (4 + s) i) wf k N) (cnt (whB μ N) S) k (mm_I μ' 25 6) b ∧ ∀ j, j < k → mm_I μ' 28 j = nI (wf (b j))) (rmX1_find).cells (rmX1_find).slots) ν 0 0 50 [some (.ref 25), some (.ref 2), some (.int (nI k)), some (.int x3), some (.int (nI t))] [] := by
    intro mz
    induction mz using Nat.strongRecOn with
    | ind mz ih =>
      intro t x3 ν p hz hI
      obtain ⟨ht4, hM, h5, h4, h26, hAD⟩ := hI
      have hb2 : Bs ν := hb.fr hM.1
      have hd : ∀ x k, ¬ Spf x → mm_I ν x k = mm_I μ x k := fun x k h => hM.2.1 x k h
      have ht2 : Tb ν S N := ht.keep (hd _ _ (by unfold Spf; omega)) (hd _ _ (by unfold Spf; omega))
      refine am_iload fx dX1_find_50 rfl ?_
      refine am_sipush (v := (nI 4096)) fx dX1_find_52 (by decide) ?_
      refine am_icmp_ge fx 98 dX1_find_55 (by decide) (fun c55 => ?_) (fun c55 => ?_)
      · try simp (disch := omega) only [bz_0, Classical.not_not, Int32.not_le, Int32.not_lt, Nat.not_le, Nat.not_lt, nI_leI, nI_ltI, nI_eq, nI_le0, nI_lt0] at c55
        have hDone := hAD.resolve_left (fun z => by have := z.2.1; omega)
        exact am_vret fx dX1_find_98 ⟨rfl, hM, wf, hDone.2.choose, fun x hx => (hwf0 x hx).2, h5, hDone.2.choose_spec.1, hDone.2.choose_spec.2⟩
      · try simp (disch := omega) only [bz_0, Classical.not_not, Int32.not_le, Int32.not_lt, Nat.not_le, Nat.not_lt, nI_leI, nI_ltI, nI_eq, nI_le0, nI_lt0] at c55
        refine am_iload_n fx dX1_find_58 rfl ?_
        refine am_iconst (v := (-1)) fx dX1_find_59 (by decide) ?_
        refine am_icmp_eq fx 98 dX1_find_60 (by decide) (fun c60 => ?_) (fun c60 => ?_)
        · skip
          have hDone := hAD.resolve_left (fun z => z.1 c60)
          exact am_vret fx dX1_find_98 ⟨rfl, hM, wf, hDone.2.choose, fun x hx => (hwf0 x hx).2, h5, hDone.2.choose_spec.1, hDone.2.choose_spec.2⟩
        · skip
          obtain ⟨-, htc, hp, hPL, b, hBf, hbb⟩ := hAD.resolve_right (fun z => c60 z.1)
          refine am_aload_n fx dX1_find_63 rfl ?_
          refine am_aload_n fx dX1_find_64 rfl ?_
          refine am_callV fx dX1_find_65 mkX1_63 (ct_X1_keepIfLess hb2 ht2 (k := k) (m := (cnt (whB μ N) S)) h5 h4 hkm (by omega) (wf := wf) (fun x hx => ⟨h26 x hx, (hwf0 x hx).2.1⟩) p hPL.1 hp.2) (so1 hb2) ⟨by decide, rfl⟩ rfl (Nat.le_of_ble_eq_true rfl) ⟨by decide, by decide⟩ ⟨Nat.le_of_ble_eq_true rfl, Nat.le_of_ble_eq_true rfl⟩ rfl ?_
          rintro _ ν4 ⟨rfl, hS4, hk4, hK⟩
          have hb4 : Bs ν4 := hb2.fr hS4.1
          have hM4 : Sm Spf μ ν4 := hM.tr (hS4.mono (fun a h => by unfold Skp at h; unfold Spf; omega))
          have h54 : mm_I ν4 25 5 = nI k := (hk4 5 (by decide)).trans h5
          have h44 : mm_I ν4 25 4 = nI (cnt (whB μ N) S) := (hk4 4 (by decide)).trans h4
          have h264 : ∀ x, x < (cnt (whB μ N) S) → mm_I ν4 26 x = nI (wf x) := fun x hx => (hS4.2.1 26 x (by unfold Skp; omega)).trans (h26 x hx)
          have h27 : ∀ j, j < k → mm_I ν4 27 j = nI (p j) := fun j hj => (hS4.2.1 27 j (by unfold Skp; omega)).trans (hPL.1 j hj)
          have hsmp : smQ (lrn ν) (fun i => mm_I ν (30 + k) i) N = (sumP (lrn μ) (fun s i => mm_I μ (4 + s) i) wf k N) p := pf_sum hd hPL (fun j hj => (hwf0 (p j) (hp.2 j hj)).2.1) hS hN
          obtain ⟨b', hbi, hbs, hb1, hb2', hble, hAll⟩ := hBf.up (fun y z h => sumP_eq h) hp (hsum wf p (fun x hx => (hwf0 x hx).2) hp)
          have hleast : mm_I ν4 25 6 = if (sumP (lrn μ) (fun s i => mm_I μ (4 + s) i) wf k N) p < mm_I ν 25 6 then (sumP (lrn μ) (fun s i => mm_I μ (4 + s) i) wf k N) p else mm_I ν 25 6 := by
            rw [← hsmp]
            rcases hK with ⟨q1, q2, -⟩ | ⟨q1, q2⟩
            · rw [if_pos q1]; exact q2
            · rw [if_neg (Int32.not_lt.mpr q1), q2]
          have hB4 : ∀ j, j < k → mm_I ν4 28 j = nI (wf (b' j)) := by
            rcases hK with ⟨q1, -, q3⟩ | ⟨q1, q2⟩
            · rw [hsmp] at q1
              rw [hb1 q1]
              exact q3
            · rw [hsmp] at q1
              rw [hb2' (Int32.not_lt.mpr q1), q2]
              exact hbb.resolve_left (fun z => by rw [z] at q1; exact absurd (hsum wf p (fun x hx => (hwf0 x hx).2) hp) (Int32.not_lt.mpr q1))
          rw [← hleast] at hbs hAll
          refine am_aload_n fx dX1_find_68 rfl ?_
          refine am_callV fx dX1_find_69 mkX1_66 (ct_X1_lastThatCanRise hb4 (k := k) (m := (cnt (whB μ N) S)) h54 h44 hkm (by omega) p h27 hp.2) (so1 hb4) ⟨by decide, rfl⟩ rfl (Nat.le_of_ble_eq_true rfl) ⟨by decide, by decide⟩ ⟨Nat.le_of_ble_eq_true rfl, Nat.le_of_ble_eq_true rfl⟩ rfl ?_
          rintro _ _ ⟨hor, rfl⟩
          obtain ⟨rv, hrv, hrr⟩ : ∃ rv : Int32, ‹Option Value› = some (.int rv) ∧ ((∃ d, rv = nI d ∧ d < k ∧ p d + (k - d) < (cnt (whB μ N) S) ∧ ∀ j, d < j → j < k → (cnt (whB μ N) S) ≤ p j + (k - j)) ∨ (rv = -1 ∧ ∀ j, j < k → (cnt (whB μ N) S) ≤ p j + (k - j))) := by
            rcases hor with ⟨d, e1, e2⟩ | ⟨e1, e2⟩
            · exact ⟨nI d, e1, Or.inl ⟨d, rfl, e2⟩⟩
            · exact ⟨-1, e1, Or.inr ⟨rfl, e2⟩⟩
          subst hrv
          clear hor
          refine am_istore_n fx dX1_find_72 (by decide) rfl ?_
          refine am_iload_n fx dX1_find_73 rfl ?_
          refine am_iconst (v := (-1)) fx dX1_find_74 (by decide) ?_
          refine am_icmp_eq fx 92 dX1_find_75 (by decide) (fun c75 => ?_) (fun c75 => ?_)
          · skip
            subst c75
            have hno := (hrr.resolve_left (fun ⟨d, e, hd9, _⟩ => nI_nm1 (show d < 2 ^ 31 by omega) e.symm)).2
            have hFn : Fnl (sumP (lrn μ) (fun s i => mm_I μ (4 + s) i) wf k N) (cnt (whB μ N) S) k (mm_I ν4 25 6) b' := ⟨hbi, hbs, fun y hy => hAll y hy (by rcases lexF_tri y p k with z | z | z; exact Or.inl z; exact Or.inr z; exact absurd z (nxt_last hy hno))⟩
            clear hrr
            first | refine am_iinc fx dX1_find_92 rfl (nI_inc _) (by decide) rfl ?_ | refine am_iinc fx dX1_find_92 rfl rfl (by decide) rfl ?_
            refine am_goto fx 50 dX1_find_95 (by decide) ?_
            exact ih (4097 - (t + 1)) (by omega) (t + 1) _ ν4 p rfl ⟨by omega, hM4, h54, h44, h264, Or.inr ⟨rfl, b', hFn, hB4⟩⟩
          · skip
            obtain ⟨d, rfl, hdk, hdr, hdn⟩ := hrr.resolve_right (fun z => c75 z.1)
            clear hrr
            have hNx : ∀ y, inc (cnt (whB μ N) S) k y → lexF k y (nxt p d) → lexF k y p ∨ eqK k y p := fun y hy hl => by
              rcases lexF_tri y p k with z | z | z
              · exact Or.inl z
              · exact Or.inr z
              · exact absurd hl (nxt_succ hp hy hdk hdn z)
            have hbl : lexF k b' (nxt p d) := by
              rcases hble with z | z
              · exact lexF_tr z (lex_nxt hdk)
              · exact lexF_eql z (lex_nxt hdk)
            have ht44 : Tb ν4 S N := ht.keep (hM4.2.1 2 4 (by unfold Spf; omega)) (hM4.2.1 2 5 (by unfold Spf; omega))
            refine am_aload_n fx dX1_find_78 rfl ?_
            refine am_aload_n fx dX1_find_79 rfl ?_
            refine am_iload_n fx dX1_find_80 rfl ?_
            refine am_aload_n fx dX1_find_81 rfl ?_
            refine am_getR fx dX1_find_82 fkX1_15 (by decide) (by decide) rfl (so1 hb4) (rf1_1 hb4) ?_
            refine am_iload_n fx dX1_find_85 rfl ?_
            refine am_iald  fx dX1_find_86 (sa1_1 hb4) rfl (by omega) (by decide) (h27 d hdk) ?_
            refine am_iconst (v := 1) fx dX1_find_87 (by decide) ?_
            refine am_iadd fx dX1_find_88 ?_
            refine am_topi (nI_1 _) ?_
            refine am_callV fx dX1_find_89 mkX1_59 (ct_X1_placeFrom hb4 ht44 (k := k) (m := (cnt (whB μ N) S)) h54 h44 hkm (by omega) (wf := wf) (fun x hx => ⟨h264 x hx, (hwf0 x hx).2.1⟩) d (p d + 1) p (by omega) (by omega) (fun j hj => hp.2 j (by omega)) (pf_low hS4 hPL (fun j hj => (hwf0 (p j) (hp.2 j hj)).2.1) (by omega) (by omega))) (so1 hb4) ⟨by decide, rfl⟩ rfl (Nat.le_of_ble_eq_true rfl) ⟨by decide, by decide⟩ ⟨Nat.le_of_ble_eq_true rfl, Nat.le_of_ble_eq_true rfl⟩ rfl ?_
            rintro _ ν5 ⟨rfl, hS5, hP5⟩
            have h65 : mm_I ν5 25 6 = mm_I ν4 25 6 := hS5.2.1 25 6 (by unfold Spr; omega)
            first | refine am_iinc fx dX1_find_92 rfl (nI_inc _) (by decide) rfl ?_ | refine am_iinc fx dX1_find_92 rfl rfl (by decide) rfl ?_
            refine am_goto fx 50 dX1_find_95 (by decide) ?_
            exact ih (4097 - (t + 1)) (by omega) (t + 1) _ ν5 (nxt p d) rfl ⟨by omega, hM4.tr (hS5.mono (fun a h => by unfold Spr at h; unfold Spf; omega)), (hS5.2.1 25 5 (by unfold Spr; omega)).trans h54, (hS5.2.1 25 4 (by unfold Spr; omega)).trans h44, fun x hx => (hS5.2.1 26 x (by unfold Spr; omega)).trans (h264 x hx), Or.inl ⟨nI_nm1 (by omega), by have := lex_rc hp (nxt_inc hp hdk hdr) (lex_nxt hdk) (n := 12) (by omega); omega, nxt_inc hp hdk hdr, hP5, b', ⟨fun y hy hl => by rw [h65]; exact hAll y hy (hNx y hy hl), Or.inr ⟨hbi, by rw [h65]; exact hbs, hbl⟩⟩, Or.inr (fun j hj => (hS5.2.1 28 j (by unfold Spr; omega)).trans (hB4 j hj))⟩⟩
  exact lp50 _ 0 _ ν0 (fun j => if j < 0 then (0 : Nat) else 0 + (j - 0)) rfl ⟨by omega, hM0.tr (hS0.mono (fun a h => by unfold Spr at h; unfold Spf; omega)), (hS0.2.1 25 5 (by unfold Spr; omega)).trans h5a, (hS0.2.1 25 4 (by unfold Spr; omega)).trans h4a, fun x hx => (hS0.2.1 26 x (by unfold Spr; omega)).trans ((h26a x).trans (hwf0 x hx).1), Or.inl ⟨by decide, by have := rcF_lt (prt (fun j => if j < 0 then (0 : Nat) else 0 + (j - 0)) k) 12; omega, ⟨fun j hj => by simp, fun j hj => by simp; omega⟩, hP0, (fun j => j), ⟨fun y hy hl => absurd hl (pf_first y hy), Or.inl ⟨(hS0.2.1 25 6 (by unfold Spr; omega)).trans h6a, fun y hy => pf_first y hy⟩⟩, Or.inl ((hS0.2.1 25 6 (by unfold Spr; omega)).trans h6a)⟩⟩
