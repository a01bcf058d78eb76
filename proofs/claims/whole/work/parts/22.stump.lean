/-- the sum of c over those with P among the first i -/
def smQ (P : Nat → Bool) (c : Nat → Int32) : Nat → Int32
  | 0 => 0
  | i + 1 => smQ P c i + (if P i = true then c i else 0)
theorem i32_ss (a b c : Int32) : a - b - c = a - (b + c) := by
  rw [Int32.sub_eq_add_neg, Int32.sub_eq_add_neg, Int32.sub_eq_add_neg, Int32.neg_add, Int32.add_assoc]
  first | rfl | rw [Int32.sub_eq_add_neg]
def S45 (a : Nat) : Prop := a = 44 ∨ a = 45
def S3s (a : Nat) : Prop := a = 43 ∨ a = 44 ∨ a = 45
theorem Tb.sm {S : Nat → Prop} {μ ν : am_M} {s n : Nat} (h : Tb μ s n) (hS : Sm S μ ν) (h2 : ¬ S 2) : Tb ν s n := ⟨(hS.2.1 2 4 h2).trans h.1, (hS.2.1 2 5 h2).trans h.2.1, h.2.2⟩
abbrev cst (μ : am_M) (s : Nat) : Nat → Int32 := fun i => mm_I μ (4 + s) i
set_option maxRecDepth 100000 in
set_option maxHeartbeats 4000000 in
theorem ct_X4_settingFor {E : am_E} {μ : am_M} (hb : Bs μ) {S N : Nat} (ht : Tb μ S N) (i fe : Nat) (hi : i < N) (hf : mm_I μ 43 2 = nI fe) (hf2 : fe < 2) : am_Ct E yX4_settingFor cX4_settingFor 3 (some .int) rmX4_settingFor [.ref 43, .ref 2, .int (nI i)] μ (fun v μ' => v = some (.int (if mm_I μ (18 + fe) i < mm_I μ 43 3 then mm_I μ 43 4 else mm_I μ 43 5)) ∧ μ = μ') := by
  refine am_Ct.of (ls := [some (.ref 43), some (.ref 2), some (.int (nI i))]) (by decide) (Nat.le_of_ble_eq_true rfl) rfl (fun C fx hnm => ?_)
  have hS := ht.s
  have hN := ht.n
  refine am_aload_n fx dX4_settingFor_0 rfl ?_
  refine am_aload_n fx dX4_settingFor_1 rfl ?_
  refine am_getI fx dX4_settingFor_2 fkX4_18 (by decide) (by decide) rfl (so4 hb) hf ?_
  refine am_iload_n fx dX4_settingFor_5 rfl ?_
  refine am_callV fx dX4_settingFor_6 mkX4_48 (ct_X5_featureAt hb ht fe i hf2 hi) (so5 hb) ⟨by decide, rfl⟩ rfl (Nat.le_of_ble_eq_true rfl) ⟨by decide, by decide⟩ ⟨Nat.le_of_ble_eq_true rfl, Nat.le_of_ble_eq_true rfl⟩ rfl ?_
  rintro _ _ ⟨rfl, rfl⟩
  refine am_aload_n fx dX4_settingFor_9 rfl ?_
  refine am_getI fx dX4_settingFor_10 fkX4_22 (by decide) (by decide) rfl (so4 hb) rfl ?_
  refine am_icmp_ge fx 23 dX4_settingFor_13 (by decide) (fun c13 => ?_) (fun c13 => ?_)
  · skip
    refine am_aload_n fx dX4_settingFor_23 rfl ?_
    refine am_getI fx dX4_settingFor_24 fkX4_28 (by decide) (by decide) rfl (so4 hb) rfl ?_
    exact am_iret fx dX4_settingFor_27 ⟨by rw [if_neg (Int32.not_lt.mpr c13)], rfl⟩
  · skip
    refine am_aload_n fx dX4_settingFor_16 rfl ?_
    refine am_getI fx dX4_settingFor_17 fkX4_25 (by decide) (by decide) rfl (so4 hb) rfl ?_
    refine am_goto fx 27 dX4_settingFor_20 (by decide) ?_
    exact am_iret fx dX4_settingFor_27 ⟨by rw [if_pos (Int32.not_le.mp c13)], rfl⟩
theorem mv_st {μ ν2 : am_M} {S fe i r : Nat} {val : Int32} (hPi : (fun i => decide (¬ mm_I μ 20 i = 0) && decide (mm_I μ (18 + fe) i = val)) i = true) (h45 : mm_I ν2 45 r = mm_I μ 45 r - smQ (fun i => decide (¬ mm_I μ 20 i = 0) && decide (mm_I μ (18 + fe) i = val)) (cst μ r) i) (h44 : mm_I ν2 44 r = mm_I μ 44 r + smQ (fun i => decide (¬ mm_I μ 20 i = 0) && decide (mm_I μ (18 + fe) i = val)) (cst μ r) i) (hF2 : (∀ s, s < S → mm_I ν2 44 s = mm_I μ 44 s + smQ (fun i => decide (¬ mm_I μ 20 i = 0) && decide (mm_I μ (18 + fe) i = val)) (cst μ s) (if s < r then i + 1 else i) ∧ mm_I ν2 45 s = mm_I μ 45 s - smQ (fun i => decide (¬ mm_I μ 20 i = 0) && decide (mm_I μ (18 + fe) i = val)) (cst μ s) (if s < r then i + 1 else i))) (hr : r < S) :
    ∀ s, s < S → mm_I (mm_sI (mm_sI ν2 45 r (mm_I μ 45 r - (smQ (fun i => decide (¬ mm_I μ 20 i = 0) && decide (mm_I μ (18 + fe) i = val)) (cst μ r) i + mm_I μ (4 + r) i))) 44 r (mm_I μ 44 r + (smQ (fun i => decide (¬ mm_I μ 20 i = 0) && decide (mm_I μ (18 + fe) i = val)) (cst μ r) i + mm_I μ (4 + r) i))) 44 s = mm_I μ 44 s + smQ (fun i => decide (¬ mm_I μ 20 i = 0) && decide (mm_I μ (18 + fe) i = val)) (cst μ s) (if s < r + 1 then i + 1 else i) ∧ mm_I (mm_sI (mm_sI ν2 45 r (mm_I μ 45 r - (smQ (fun i => decide (¬ mm_I μ 20 i = 0) && decide (mm_I μ (18 + fe) i = val)) (cst μ r) i + mm_I μ (4 + r) i))) 44 r (mm_I μ 44 r + (smQ (fun i => decide (¬ mm_I μ 20 i = 0) && decide (mm_I μ (18 + fe) i = val)) (cst μ r) i + mm_I μ (4 + r) i))) 45 s = mm_I μ 45 s - smQ (fun i => decide (¬ mm_I μ 20 i = 0) && decide (mm_I μ (18 + fe) i = val)) (cst μ s) (if s < r + 1 then i + 1 else i) := by
  intro s hs
  have hstep : smQ (fun i => decide (¬ mm_I μ 20 i = 0) && decide (mm_I μ (18 + fe) i = val)) (cst μ r) (i + 1) = smQ (fun i => decide (¬ mm_I μ 20 i = 0) && decide (mm_I μ (18 + fe) i = val)) (cst μ r) i + mm_I μ (4 + r) i := by
    simp only [smQ]
    rw [if_pos hPi]
  by_cases e : s = r
  · subst e
    rw [mI_same, mI_ne (Or.inl (by decide)), mI_same, if_pos (by omega), hstep]
    exact ⟨rfl, rfl⟩
  · rw [mI_ne (Or.inr e), mI_ne (Or.inl (by decide)), mI_ne (Or.inl (by decide)), mI_ne (Or.inr e)]
    have := hF2 s hs
    by_cases h : s < r
    · rw [if_pos h] at this; rw [if_pos (by omega)]; exact this
    · rw [if_neg h] at this; rw [if_neg (by omega)]; exact this
set_option maxRecDepth 100000 in
set_option maxHeartbeats 4000000 in
theorem ct_X4_moveBelow {E : am_E} {μ : am_M} (hb : Bs μ) {S N : Nat} (ht : Tb μ S N) (fe : Nat) (hf2 : fe < 2) (val : Int32) : am_Ct E yX4_moveBelow cX4_moveBelow 6 none rmX4_moveBelow [.ref 43, .ref 2, .int (nI fe), .int val] μ (fun v μ' => v = none ∧ Sm S45 μ μ' ∧ (∀ s, s < S → mm_I μ' 44 s = mm_I μ 44 s + smQ (fun i => decide (¬ mm_I μ 20 i = 0) && decide (mm_I μ (18 + fe) i = val)) (cst μ s) N ∧ mm_I μ' 45 s = mm_I μ 45 s - smQ (fun i => decide (¬ mm_I μ 20 i = 0) && decide (mm_I μ (18 + fe) i = val)) (cst μ s) N)) := by
  refine am_Ct.of (ls := [some (.ref 43), some (.ref 2), some (.int (nI fe)), some (.int val), none, none]) (by decide) (Nat.le_of_ble_eq_true rfl) rfl (fun C fx hnm => ?_)
  have hS := ht.s
  have hN := ht.n
  refine am_iconst (v := 0) fx dX4_moveBelow_0 (by decide) ?_
  refine am_istore fx dX4_moveBelow_1 (by decide) rfl ?_
  have lp3 : ∀ (mz : Nat) (i : Nat) (ν : am_M), N - i = mz → (i ≤ N ∧ Sm S45 μ ν ∧ (∀ s, s < S → mm_I ν 44 s = mm_I μ 44 s + smQ (fun i => decide (¬ mm_I μ 20 i = 0) && decide (mm_I μ (18 + fe) i = val)) (cst μ s) i ∧ mm_I ν 45 s = mm_I μ 45 s - smQ (fun i => decide (¬ mm_I μ 20 i = 0) && decide (mm_I μ (18 + fe) i = val)) (cst μ s) i)) → am_W E C (am_MQ E C (fun v μ' => v = none ∧ Sm S45 μ μ' ∧ (∀ s, s < S → mm_I μ' 44 s = mm_I μ 44 s + smQ (fun i => decide (¬ mm_I μ 20 i = 0) && decide (mm_I μ (18 + fe) i = val)) (cst μ s) N ∧ mm_I μ' 45 s = mm_I μ 45 s - smQ (fun i => decide (¬ mm_I μ 20 i = 0) && decide (mm_I μ (18 + fe) i = val)) (cst μ s) N)) (rmX4_moveBelow).cells (rmX4_moveBelow).slots) ν 0 0 3 [some (.ref 43), some (.ref 2), some (.int (nI fe)), some (.int val), some (.int (nI i)), none] [] := by
    intro mz
    induction mz using Nat.strongRecOn with
    | ind mz ih =>
      intro i ν hz hI
      obtain ⟨hi, hM, hF⟩ := hI
      have hb2 : Bs ν := hb.fr hM.1
      have ht2 : Tb ν S N := ht.sm hM (by unfold S45; omega)
      have hd : ∀ x k, x ≠ 44 → x ≠ 45 → mm_I ν x k = mm_I μ x k := fun x k a b => hM.2.1 x k (by unfold S45; omega)
      refine am_iload fx dX4_moveBelow_3 rfl ?_
      refine am_aload_n fx dX4_moveBelow_5 rfl ?_
      refine am_getI fx dX4_moveBelow_6 fkX4_63 (by decide) (by decide) rfl (so5 hb2) ht2.2.1 ?_
      refine am_icmp_ge fx 92 dX4_moveBelow_9 (by decide) (fun c9 => ?_) (fun c9 => ?_)
      · try simp (disch := omega) only [bz_0, Classical.not_not, Int32.not_le, Int32.not_lt, Nat.not_le, Nat.not_lt, nI_leI, nI_ltI, nI_eq, nI_le0, nI_lt0] at c9
        exact am_vret fx dX4_moveBelow_92 ⟨rfl, hM, fun s hs => by rw [← show i = N by omega]; exact hF s hs⟩
      · try simp (disch := omega) only [bz_0, Classical.not_not, Int32.not_le, Int32.not_lt, Nat.not_le, Nat.not_lt, nI_leI, nI_ltI, nI_eq, nI_le0, nI_lt0] at c9
        refine am_aload_n fx dX4_moveBelow_12 rfl ?_
        refine am_iload fx dX4_moveBelow_13 rfl ?_
        refine am_callV fx dX4_moveBelow_15 mkX4_66 (ct_X5_isLearning hb2 ht2 i (by assumption)) (so5 hb2) ⟨by decide, rfl⟩ rfl (Nat.le_of_ble_eq_true rfl) ⟨by decide, by decide⟩ ⟨Nat.le_of_ble_eq_true rfl, Nat.le_of_ble_eq_true rfl⟩ rfl ?_
        rintro _ _ ⟨rfl, rfl⟩
        refine am_if_eq fx 86 dX4_moveBelow_18 (by decide) (fun c18 => ?_) (fun c18 => ?_)
        · try simp (disch := omega) only [bz_0, Classical.not_not, Int32.not_le, Int32.not_lt, Nat.not_le, Nat.not_lt, nI_leI, nI_ltI, nI_eq, nI_le0, nI_lt0] at c18
          rw [hd _ _ (by decide) (by decide)] at c18
          first | refine am_iinc fx dX4_moveBelow_86 rfl (nI_inc _) (by decide) rfl ?_ | refine am_iinc fx dX4_moveBelow_86 rfl rfl (by decide) rfl ?_
          refine am_goto fx 3 dX4_moveBelow_89 (by decide) ?_
          exact ih (N - (i + 1)) (by omega) (i + 1) ν rfl ⟨by omega, hM, fun s hs => by simp only [smQ]; rw [if_neg (by simp [c18]), Int32.add_zero]; exact hF s hs⟩
        · try simp (disch := omega) only [bz_0, Classical.not_not, Int32.not_le, Int32.not_lt, Nat.not_le, Nat.not_lt, nI_leI, nI_ltI, nI_eq, nI_le0, nI_lt0] at c18
          rw [hd _ _ (by decide) (by decide)] at c18
          refine am_aload_n fx dX4_moveBelow_21 rfl ?_
          refine am_iload_n fx dX4_moveBelow_22 rfl ?_
          refine am_iload fx dX4_moveBelow_23 rfl ?_
          refine am_callV fx dX4_moveBelow_25 mkX4_48 (ct_X5_featureAt hb2 ht2 fe i hf2 (by assumption)) (so5 hb2) ⟨by decide, rfl⟩ rfl (Nat.le_of_ble_eq_true rfl) ⟨by decide, by decide⟩ ⟨Nat.le_of_ble_eq_true rfl, Nat.le_of_ble_eq_true rfl⟩ rfl ?_
          rintro _ _ ⟨rfl, rfl⟩
          rw [hd _ _ (by omega) (by omega)]
          refine am_iload_n fx dX4_moveBelow_28 rfl ?_
          refine am_icmp_ne fx 86 dX4_moveBelow_29 (by decide) (fun c29 => ?_) (fun c29 => ?_)
          · skip
            first | refine am_iinc fx dX4_moveBelow_86 rfl (nI_inc _) (by decide) rfl ?_ | refine am_iinc fx dX4_moveBelow_86 rfl rfl (by decide) rfl ?_
            refine am_goto fx 3 dX4_moveBelow_89 (by decide) ?_
            exact ih (N - (i + 1)) (by omega) (i + 1) ν rfl ⟨by omega, hM, fun s hs => by simp only [smQ]; rw [if_neg (by simp [c29]), Int32.add_zero]; exact hF s hs⟩
          · skip
            have hPi : (fun i => decide (¬ mm_I μ 20 i = 0) && decide (mm_I μ (18 + fe) i = val)) i = true := by simp [c18, c29]
            refine am_iconst (v := 0) fx dX4_moveBelow_32 (by decide) ?_
            refine am_istore fx dX4_moveBelow_33 (by decide) rfl ?_
            have lp35 : ∀ (mz : Nat) (r : Nat) (ν2 : am_M), S - r = mz → (r ≤ S ∧ Sm S45 μ ν2 ∧ (∀ s, s < S → mm_I ν2 44 s = mm_I μ 44 s + smQ (fun i => decide (¬ mm_I μ 20 i = 0) && decide (mm_I μ (18 + fe) i = val)) (cst μ s) (if s < r then i + 1 else i) ∧ mm_I ν2 45 s = mm_I μ 45 s - smQ (fun i => decide (¬ mm_I μ 20 i = 0) && decide (mm_I μ (18 + fe) i = val)) (cst μ s) (if s < r then i + 1 else i))) → am_W E C (am_MQ E C (fun v μ' => v = none ∧ Sm S45 μ μ' ∧ (∀ s, s < S → mm_I μ' 44 s = mm_I μ 44 s + smQ (fun i => decide (¬ mm_I μ 20 i = 0) && decide (mm_I μ (18 + fe) i = val)) (cst μ s) N ∧ mm_I μ' 45 s = mm_I μ 45 s - smQ (fun i => decide (¬ mm_I μ 20 i = 0) && decide (mm_I μ (18 + fe) i = val)) (cst μ s) N)) (rmX4_moveBelow).cells (rmX4_moveBelow).slots) ν2 0 0 35 [some (.ref 43), some (.ref 2), some (.int (nI fe)), some (.int val), some (.int (nI i)), some (.int (nI r))] [] := by
              intro mz
              induction mz using Nat.strongRecOn with
              | ind mz ih2 =>
                intro r ν2 hz2 hJ
                obtain ⟨hr, hM2, hF2⟩ := hJ
                have hb3 : Bs ν2 := hb.fr hM2.1
                have ht3 : Tb ν2 S N := ht.sm hM2 (by unfold S45; omega)
                have he : ∀ x k, x ≠ 44 → x ≠ 45 → mm_I ν2 x k = mm_I μ x k := fun x k a b => hM2.2.1 x k (by unfold S45; omega)
                refine am_iload fx dX4_moveBelow_35 rfl ?_
                refine am_aload_n fx dX4_moveBelow_37 rfl ?_
                refine am_getI fx dX4_moveBelow_38 fkX4_60 (by decide) (by decide) rfl (so5 hb3) ht3.1 ?_
                refine am_icmp_ge fx 86 dX4_moveBelow_41 (by decide) (fun c41 => ?_) (fun c41 => ?_)
                · try simp (disch := omega) only [bz_0, Classical.not_not, Int32.not_le, Int32.not_lt, Nat.not_le, Nat.not_lt, nI_leI, nI_ltI, nI_eq, nI_le0, nI_lt0] at c41
                  first | refine am_iinc fx dX4_moveBelow_86 rfl (nI_inc _) (by decide) rfl ?_ | refine am_iinc fx dX4_moveBelow_86 rfl rfl (by decide) rfl ?_
                  refine am_goto fx 3 dX4_moveBelow_89 (by decide) ?_
                  refine am_sub [true, true, true, true, true, false] rfl ?_
                  exact ih (N - (i + 1)) (by omega) (i + 1) ν2 rfl ⟨by omega, hM2, fun s hs => by have := hF2 s hs; rw [if_pos (show s < r by omega)] at this; exact this⟩
                · try simp (disch := omega) only [bz_0, Classical.not_not, Int32.not_le, Int32.not_lt, Nat.not_le, Nat.not_lt, nI_leI, nI_ltI, nI_eq, nI_le0, nI_lt0] at c41
                  refine am_aload_n fx dX4_moveBelow_44 rfl ?_
                  have h44 := (hF2 r (by omega)).1
                  have h45 := (hF2 r (by omega)).2
                  rw [if_neg (by omega)] at h44 h45
                  refine am_getR fx dX4_moveBelow_45 fkX4_15 (by decide) (by decide) rfl (so4 hb3) (rf4_1 hb3) ?_
                  refine am_iload fx dX4_moveBelow_48 rfl ?_
                  refine am_dup2 fx dX4_moveBelow_50 ?_
                  refine am_iald  fx dX4_moveBelow_51 (sa4_1 hb3) rfl (by omega) (by decide) h45 ?_
                  refine am_aload_n fx dX4_moveBelow_52 rfl ?_
                  refine am_iload fx dX4_moveBelow_53 rfl ?_
                  refine am_iload fx dX4_moveBelow_55 rfl ?_
                  refine am_callV fx dX4_moveBelow_57 mkX4_70 (ct_X5_costAt hb3 ht3 (nI r) (nI i)) (so5 hb3) ⟨by decide, rfl⟩ rfl (Nat.le_of_ble_eq_true rfl) ⟨by decide, by decide⟩ ⟨Nat.le_of_ble_eq_true rfl, Nat.le_of_ble_eq_true rfl⟩ rfl ?_
                  rintro _ _ ⟨rfl, rfl⟩
                  rw [co_in (by omega) (by omega) hS hN, he _ _ (by omega) (by omega)]
                  refine am_isub fx dX4_moveBelow_60 ?_
                  refine am_topi (i32_ss _ _ _) ?_
                  refine am_iast  fx dX4_moveBelow_61 (sa4_1 hb3) rfl (by omega) (by decide) ?_
                  generalize hv1 : mm_I μ 45 r - (smQ (fun i => decide (¬ mm_I μ 20 i = 0) && decide (mm_I μ (18 + fe) i = val)) (cst μ r) i + mm_I μ (4 + r) i) = v1
                  have hb4 : Bs (mm_sI ν2 45 r v1) := hb3.fr (Fr.sI _ _ _ _)
                  have ht4 : Tb (mm_sI ν2 45 r v1) S N := ht3.sm (Sm.sI (S := S45) _ (Or.inr rfl)) (by unfold S45; omega)
                  refine am_aload_n fx dX4_moveBelow_62 rfl ?_
                  refine am_getR fx dX4_moveBelow_63 fkX4_9 (by decide) (by decide) rfl (so4 hb4) (rf4_0 hb4) ?_
                  refine am_iload fx dX4_moveBelow_66 rfl ?_
                  refine am_dup2 fx dX4_moveBelow_68 ?_
                  refine am_iald  fx dX4_moveBelow_69 (sa4_0 hb4) rfl (by omega) (by decide) ((mI_ne (Or.inl (by decide))).trans h44) ?_
                  refine am_aload_n fx dX4_moveBelow_70 rfl ?_
                  refine am_iload fx dX4_moveBelow_71 rfl ?_
                  refine am_iload fx dX4_moveBelow_73 rfl ?_
                  refine am_callV fx dX4_moveBelow_75 mkX4_70 (ct_X5_costAt hb4 ht4 (nI r) (nI i)) (so5 hb4) ⟨by decide, rfl⟩ rfl (Nat.le_of_ble_eq_true rfl) ⟨by decide, by decide⟩ ⟨Nat.le_of_ble_eq_true rfl, Nat.le_of_ble_eq_true rfl⟩ rfl ?_
                  rintro _ _ ⟨rfl, rfl⟩
                  rw [co_in (by omega) (by omega) hS hN, mI_ne (Or.inl (by omega)), he _ _ (by omega) (by omega)]
                  refine am_iadd fx dX4_moveBelow_78 ?_
                  refine am_topi (Int32.add_assoc _ _ _) ?_
                  refine am_iast  fx dX4_moveBelow_79 (sa4_0 hb4) rfl (by omega) (by decide) ?_
                  subst hv1
                  first | refine am_iinc fx dX4_moveBelow_80 rfl (nI_inc _) (by decide) rfl ?_ | refine am_iinc fx dX4_moveBelow_80 rfl rfl (by decide) rfl ?_
                  refine am_goto fx 35 dX4_moveBelow_83 (by decide) ?_
                  exact ih2 (S - (r + 1)) (by omega) (r + 1) _ rfl ⟨by omega, hM2.tr ((Sm.sI _ (Or.inr rfl)).tr (Sm.sI _ (Or.inl rfl))), mv_st hPi h45 h44 hF2 (by omega)⟩
            exact lp35 _ 0 ν rfl ⟨by omega, hM, fun s hs => by rw [if_neg (by omega)]; exact hF s hs⟩
  refine am_sub [true, true, true, true, true, false] rfl ?_
  exact lp3 _ 0 μ rfl ⟨by omega, Sm.rf _ _, fun s _ => ⟨by simp [smQ], by simp [smQ]⟩⟩
