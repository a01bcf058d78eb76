theorem sI_sI (μ : am_M) (a k : Nat) (v v' : Int32) : mm_sI (mm_sI μ a k v) a k v' = mm_sI μ a k v' := am_ext rfl (fun a' k' => by rw [mI_sI, mI_sI, mI_sI]; by_cases h : a' = a ∧ k' = k <;> simp [h]) (fun _ _ => rfl) rfl rfl
set_option maxRecDepth 100000 in
set_option maxHeartbeats 4000000 in
theorem ct_X7_wantsN {E : am_E} {μ : am_M} (hb : Bs μ) (h6 : mm_I μ 46 6 = -1) (x : Int32) : am_Ct E yX7_wants cX7_wants 2 (some .int) rmX7_wants [.ref 46, .int x] μ (fun v μ' => v = some (.int (if 0 ≤ x ∧ x ≤ 1 then -3 else -2)) ∧ μ' = mm_sI μ 46 0 0) := by
  refine am_Ct.of (ls := [some (.ref 46), some (.int x)]) (by decide) (Nat.le_of_ble_eq_true rfl) rfl (fun C fx hnm => ?_)
  refine am_aload_n fx dX7_wants_0 rfl ?_
  refine am_iconst (v := 0) fx dX7_wants_1 (by decide) ?_
  refine am_putI fx dX7_wants_2 fkX7_43 (by decide) (by decide) rfl rfl (so7 hb) ?_
  have hb : Bs (mm_sI μ 46 0 0) := hb.fr (Fr.sI _ _ _ _)
  have h6 : mm_I (mm_sI μ 46 0 0) 46 6 = -1 := (mI_ne (Or.inr (by decide))).trans h6
  obtain ⟨μ0, hM0⟩ : ∃ z, z = mm_sI μ 46 0 0 := ⟨_, rfl⟩
  rw [← hM0] at hb h6
  refine am_mem hM0.symm ?_
  refine am_iload_n fx dX7_wants_5 rfl ?_
  refine am_iconst (v := 0) fx dX7_wants_6 (by decide) ?_
  refine am_iconst (v := 1) fx dX7_wants_7 (by decide) ?_
  refine am_callS fx dX7_wants_8 mkX7_49 (ct_X7_in _ _ _) rfl (Nat.le_of_ble_eq_true rfl) ⟨by decide, by decide⟩ ⟨Nat.le_of_ble_eq_true rfl, Nat.le_of_ble_eq_true rfl⟩ rfl ?_
  rintro _ _ ⟨rfl, rfl⟩
  refine am_if_ne fx 17 dX7_wants_11 (by decide) (fun c11 => ?_) (fun c11 => ?_)
  · try simp (disch := omega) only [bz_0, Classical.not_not, Int32.not_le, Int32.not_lt, Nat.not_le, Nat.not_lt, nI_leI, nI_ltI, nI_eq, nI_le0, nI_lt0] at c11
    refine am_aload_n fx dX7_wants_17 rfl ?_
    refine am_callV fx dX7_wants_18 mkX7_110 (ct_X7_isOn hb) (so7 hb) ⟨by decide, rfl⟩ rfl (Nat.le_of_ble_eq_true rfl) ⟨by decide, by decide⟩ ⟨Nat.le_of_ble_eq_true rfl, Nat.le_of_ble_eq_true rfl⟩ rfl ?_
    rintro _ _ ⟨rfl, rfl⟩
    rw [show bz (0 ≤ mm_I μ0 46 6 ∧ mm_I μ0 46 17 = 0) = 0 from bz_0.mpr (fun z => by have := z.1; rw [h6] at this; exact absurd this (by decide))]
    refine am_if_ne fx 29 dX7_wants_21 (by decide) (fun c21 => ?_) (fun c21 => ?_)
    · skip
      exact absurd rfl c21
    · skip
      refine am_bipush (v := (-3)) fx dX7_wants_24 (by decide) ?_
      refine am_goto fx 49 dX7_wants_26 (by decide) ?_
      exact am_iret fx dX7_wants_49 ⟨by rw [if_pos c11], hM0⟩
  · try simp (disch := omega) only [bz_0, Classical.not_not, Int32.not_le, Int32.not_lt, Nat.not_le, Nat.not_lt, nI_leI, nI_ltI, nI_eq, nI_le0, nI_lt0] at c11
    refine am_bipush (v := (-2)) fx dX7_wants_14 (by decide) ?_
    exact am_iret fx dX7_wants_16 ⟨by rw [if_neg c11], hM0⟩
set_option maxRecDepth 100000 in
set_option maxHeartbeats 4000000 in
theorem ct_X7_rankN {E : am_E} {μ : am_M} (hb : Bs μ) (h6 : mm_I μ 46 6 = -1) (x : Int32) : am_Ct E yX7_rank cX7_rank 2 (some .int) rmX7_rank [.ref 46, .int x] μ (fun v μ' => v = some (.int (-1)) ∧ μ' = mm_sI μ 46 0 0) := by
  refine am_Ct.of (ls := [some (.ref 46), some (.int x)]) (by decide) (Nat.le_of_ble_eq_true rfl) rfl (fun C fx hnm => ?_)
  refine am_aload_n fx dX7_rank_0 rfl ?_
  refine am_iconst (v := 0) fx dX7_rank_1 (by decide) ?_
  refine am_putI fx dX7_rank_2 fkX7_43 (by decide) (by decide) rfl rfl (so7 hb) ?_
  have hb : Bs (mm_sI μ 46 0 0) := hb.fr (Fr.sI _ _ _ _)
  have h6 : mm_I (mm_sI μ 46 0 0) 46 6 = -1 := (mI_ne (Or.inr (by decide))).trans h6
  obtain ⟨μ0, hM0⟩ : ∃ z, z = mm_sI μ 46 0 0 := ⟨_, rfl⟩
  rw [← hM0] at hb h6
  refine am_mem hM0.symm ?_
  refine am_aload_n fx dX7_rank_5 rfl ?_
  refine am_getI fx dX7_rank_6 fkX7_20 (by decide) (by decide) rfl (so7 hb) h6 ?_
  refine am_if_lt fx 35 dX7_rank_9 (by decide) (fun c9 => ?_) (fun c9 => ?_)
  · skip
    refine am_iconst (v := (-1)) fx dX7_rank_35 (by decide) ?_
    refine am_goto fx 44 dX7_rank_36 (by decide) ?_
    exact am_iret fx dX7_rank_44 ⟨rfl, hM0⟩
  · skip
    exact absurd (show (-1 : Int32) < 0 by decide) c9
set_option maxRecDepth 100000 in
set_option maxHeartbeats 4000000 in
theorem ct_X7_droppedN {E : am_E} {μ : am_M} (hb : Bs μ) (h6 : mm_I μ 46 6 = -1) (x : Int32) : am_Ct E yX7_dropped cX7_dropped 2 (some .int) rmX7_dropped [.ref 46, .int x] μ (fun v μ' => v = some (.int (-1)) ∧ μ' = mm_sI μ 46 0 0) := by
  refine am_Ct.of (ls := [some (.ref 46), some (.int x)]) (by decide) (Nat.le_of_ble_eq_true rfl) rfl (fun C fx hnm => ?_)
  refine am_aload_n fx dX7_dropped_0 rfl ?_
  refine am_iconst (v := 0) fx dX7_dropped_1 (by decide) ?_
  refine am_putI fx dX7_dropped_2 fkX7_43 (by decide) (by decide) rfl rfl (so7 hb) ?_
  have hb : Bs (mm_sI μ 46 0 0) := hb.fr (Fr.sI _ _ _ _)
  have h6 : mm_I (mm_sI μ 46 0 0) 46 6 = -1 := (mI_ne (Or.inr (by decide))).trans h6
  obtain ⟨μ0, hM0⟩ : ∃ z, z = mm_sI μ 46 0 0 := ⟨_, rfl⟩
  rw [← hM0] at hb h6
  refine am_mem hM0.symm ?_
  refine am_aload_n fx dX7_dropped_5 rfl ?_
  refine am_getI fx dX7_dropped_6 fkX7_20 (by decide) (by decide) rfl (so7 hb) h6 ?_
  refine am_if_lt fx 26 dX7_dropped_9 (by decide) (fun c9 => ?_) (fun c9 => ?_)
  · skip
    refine am_iconst (v := (-1)) fx dX7_dropped_26 (by decide) ?_
    refine am_goto fx 50 dX7_dropped_27 (by decide) ?_
    exact am_iret fx dX7_dropped_50 ⟨rfl, hM0⟩
  · skip
    exact absurd (show (-1 : Int32) < 0 by decide) c9
set_option maxRecDepth 100000 in
set_option maxHeartbeats 4000000 in
theorem ct_X7_leftN {E : am_E} {μ : am_M} (hb : Bs μ) (h6 : mm_I μ 46 6 = -1) (x : Int32) : am_Ct E yX7_left cX7_left 4 (some .int) rmX7_left [.ref 46, .int x] μ (fun v μ' => v = some (.int (-1)) ∧ μ' = mm_sI μ 46 0 0) := by
  refine am_Ct.of (ls := [some (.ref 46), some (.int x), none, none]) (by decide) (Nat.le_of_ble_eq_true rfl) rfl (fun C fx hnm => ?_)
  refine am_aload_n fx dX7_left_0 rfl ?_
  refine am_iconst (v := 0) fx dX7_left_1 (by decide) ?_
  refine am_putI fx dX7_left_2 fkX7_43 (by decide) (by decide) rfl rfl (so7 hb) ?_
  have hb : Bs (mm_sI μ 46 0 0) := hb.fr (Fr.sI _ _ _ _)
  have h6 : mm_I (mm_sI μ 46 0 0) 46 6 = -1 := (mI_ne (Or.inr (by decide))).trans h6
  obtain ⟨μ0, hM0⟩ : ∃ z, z = mm_sI μ 46 0 0 := ⟨_, rfl⟩
  rw [← hM0] at hb h6
  refine am_mem hM0.symm ?_
  refine am_aload_n fx dX7_left_5 rfl ?_
  refine am_getI fx dX7_left_6 fkX7_20 (by decide) (by decide) rfl (so7 hb) h6 ?_
  refine am_if_ge fx 14 dX7_left_9 (by decide) (fun c9 => ?_) (fun c9 => ?_)
  · skip
    exact absurd c9 (by decide)
  · skip
    refine am_iconst (v := (-1)) fx dX7_left_12 (by decide) ?_
    exact am_iret fx dX7_left_13 ⟨rfl, hM0⟩
set_option maxRecDepth 100000 in
set_option maxHeartbeats 4000000 in
theorem ct_X7_raceOfN {E : am_E} {μ : am_M} (hb : Bs μ) (h6 : mm_I μ 46 6 = -1) (x : Int32) : am_Ct E yX7_raceOf cX7_raceOf 2 (some .int) rmX7_raceOf [.ref 46, .int x] μ (fun v μ' => v = some (.int (if 0 ≤ x ∧ x ≤ 4 then -3 else -2)) ∧ μ' = mm_sI μ 46 0 0) := by
  refine am_Ct.of (ls := [some (.ref 46), some (.int x)]) (by decide) (Nat.le_of_ble_eq_true rfl) rfl (fun C fx hnm => ?_)
  refine am_aload_n fx dX7_raceOf_0 rfl ?_
  refine am_iconst (v := 0) fx dX7_raceOf_1 (by decide) ?_
  refine am_putI fx dX7_raceOf_2 fkX7_43 (by decide) (by decide) rfl rfl (so7 hb) ?_
  have hb : Bs (mm_sI μ 46 0 0) := hb.fr (Fr.sI _ _ _ _)
  have h6 : mm_I (mm_sI μ 46 0 0) 46 6 = -1 := (mI_ne (Or.inr (by decide))).trans h6
  obtain ⟨μ0, hM0⟩ : ∃ z, z = mm_sI μ 46 0 0 := ⟨_, rfl⟩
  rw [← hM0] at hb h6
  refine am_mem hM0.symm ?_
  refine am_iload_n fx dX7_raceOf_5 rfl ?_
  refine am_iconst (v := 0) fx dX7_raceOf_6 (by decide) ?_
  refine am_iconst (v := 4) fx dX7_raceOf_7 (by decide) ?_
  refine am_callS fx dX7_raceOf_8 mkX7_49 (ct_X7_in _ _ _) rfl (Nat.le_of_ble_eq_true rfl) ⟨by decide, by decide⟩ ⟨Nat.le_of_ble_eq_true rfl, Nat.le_of_ble_eq_true rfl⟩ rfl ?_
  rintro _ _ ⟨rfl, rfl⟩
  refine am_if_ne fx 17 dX7_raceOf_11 (by decide) (fun c11 => ?_) (fun c11 => ?_)
  · try simp (disch := omega) only [bz_0, Classical.not_not, Int32.not_le, Int32.not_lt, Nat.not_le, Nat.not_lt, nI_leI, nI_ltI, nI_eq, nI_le0, nI_lt0] at c11
    refine am_aload_n fx dX7_raceOf_17 rfl ?_
    refine am_getI fx dX7_raceOf_18 fkX7_20 (by decide) (by decide) rfl (so7 hb) h6 ?_
    refine am_if_ge fx 27 dX7_raceOf_21 (by decide) (fun c21 => ?_) (fun c21 => ?_)
    · skip
      exact absurd c21 (by decide)
    · skip
      refine am_bipush (v := (-3)) fx dX7_raceOf_24 (by decide) ?_
      exact am_iret fx dX7_raceOf_26 ⟨by rw [if_pos c11], hM0⟩
  · try simp (disch := omega) only [bz_0, Classical.not_not, Int32.not_le, Int32.not_lt, Nat.not_le, Nat.not_lt, nI_leI, nI_ltI, nI_eq, nI_le0, nI_lt0] at c11
    refine am_bipush (v := (-2)) fx dX7_raceOf_14 (by decide) ?_
    exact am_iret fx dX7_raceOf_16 ⟨by rw [if_neg c11], hM0⟩
set_option maxRecDepth 100000 in
set_option maxHeartbeats 4000000 in
theorem ct_X7_oddsN {E : am_E} {μ : am_M} (hb : Bs μ) (h6 : mm_I μ 46 6 = -1) (a b side : Int32) : am_Ct E yX7_odds cX7_odds 4 (some .long) rmX7_odds [.ref 46, .int a, .int b, .int side] μ (fun v μ' => v = some (.long (-9223372036854775808)) ∧ μ' = mm_sI μ 46 0 0) := by
  refine am_Ct.of (ls := [some (.ref 46), some (.int a), some (.int b), some (.int side)]) (by decide) (Nat.le_of_ble_eq_true rfl) rfl (fun C fx hnm => ?_)
  refine am_aload_n fx dX7_odds_0 rfl ?_
  refine am_iconst (v := 0) fx dX7_odds_1 (by decide) ?_
  refine am_putI fx dX7_odds_2 fkX7_43 (by decide) (by decide) rfl rfl (so7 hb) ?_
  have hb : Bs (mm_sI μ 46 0 0) := hb.fr (Fr.sI _ _ _ _)
  have h6 : mm_I (mm_sI μ 46 0 0) 46 6 = -1 := (mI_ne (Or.inr (by decide))).trans h6
  obtain ⟨μ0, hM0⟩ : ∃ z, z = mm_sI μ 46 0 0 := ⟨_, rfl⟩
  rw [← hM0] at hb h6
  refine am_mem hM0.symm ?_
  refine am_aload_n fx dX7_odds_5 rfl ?_
  refine am_getI fx dX7_odds_6 fkX7_20 (by decide) (by decide) rfl (so7 hb) h6 ?_
  refine am_if_lt fx 49 dX7_odds_9 (by decide) (fun c9 => ?_) (fun c9 => ?_)
  · skip
    refine am_ldc2 fx dX7_odds_49 kdX7_140 ?_
    exact am_lret fx dX7_odds_52 ⟨rfl, hM0⟩
  · skip
    exact absurd (show (-1 : Int32) < 0 by decide) c9
set_option maxRecDepth 100000 in
set_option maxHeartbeats 4000000 in
theorem ct_X7_dropped {E : am_E} {μ : am_M} (hb : Bs μ) {En Rd pl : Nat} {od : Nat → Nat} {ou : Nat → Int32} (ho : Mo μ En Rd pl od ou) {kd : Int32} (h6 : mm_I μ 46 6 = kd) (hk0 : 0 ≤ kd) (x : Int32) : am_Ct E yX7_dropped cX7_dropped 2 (some .int) rmX7_dropped [.ref 46, .int x] μ (fun v μ' => v = some (.int (if 0 ≤ x ∧ x < nI En then (if ou x.toNatClampNeg = 0 then -3 else ou x.toNatClampNeg) else -1)) ∧ μ' = mm_sI μ 46 0 0) := by
  refine am_Ct.of (ls := [some (.ref 46), some (.int x)]) (by decide) (Nat.le_of_ble_eq_true rfl) rfl (fun C fx hnm => ?_)
  have hE := ho.e
  have hR := ho.r
  have hP := ho.p
  refine am_aload_n fx dX7_dropped_0 rfl ?_
  refine am_iconst (v := 0) fx dX7_dropped_1 (by decide) ?_
  refine am_putI fx dX7_dropped_2 fkX7_43 (by decide) (by decide) rfl rfl (so7 hb) ?_
  have hb : Bs (mm_sI μ 46 0 0) := hb.fr (Fr.sI _ _ _ _)
  have ho : Mo (mm_sI μ 46 0 0) En Rd pl od ou := ho.keep (mI_ne (Or.inr (by decide))) (mI_ne (Or.inr (by decide))) (mI_ne (Or.inr (by decide))) (fun k => mI_ne (Or.inl (by decide))) (fun k => mI_ne (Or.inl (by decide)))
  have h6 : mm_I (mm_sI μ 46 0 0) 46 6 = kd := (mI_ne (Or.inr (by decide))).trans h6
  obtain ⟨μ0, hM0⟩ : ∃ z, z = mm_sI μ 46 0 0 := ⟨_, rfl⟩
  rw [← hM0] at hb ho h6
  refine am_mem hM0.symm ?_
  refine am_aload_n fx dX7_dropped_5 rfl ?_
  refine am_getI fx dX7_dropped_6 fkX7_20 (by decide) (by decide) rfl (so7 hb) h6 ?_
  refine am_if_lt fx 26 dX7_dropped_9 (by decide) (fun c9 => ?_) (fun c9 => ?_)
  · skip
    exact absurd c9 (Int32.not_lt.mpr hk0)
  · skip
    refine am_iload_n fx dX7_dropped_12 rfl ?_
    refine am_iconst (v := 0) fx dX7_dropped_13 (by decide) ?_
    refine am_aload_n fx dX7_dropped_14 rfl ?_
    refine am_getI fx dX7_dropped_15 fkX7_69 (by decide) (by decide) rfl (so7 hb) ho.1 ?_
    refine am_iconst (v := 1) fx dX7_dropped_18 (by decide) ?_
    refine am_isub fx dX7_dropped_19 ?_
    refine am_callS fx dX7_dropped_20 mkX7_49 (ct_X7_in _ _ _) rfl (Nat.le_of_ble_eq_true rfl) ⟨by decide, by decide⟩ ⟨Nat.le_of_ble_eq_true rfl, Nat.le_of_ble_eq_true rfl⟩ rfl ?_
    rintro _ _ ⟨rfl, rfl⟩
    rw [bz_congr (show (0 ≤ x ∧ x ≤ nI En - 1) ↔ (0 ≤ x ∧ x < nI En) by rw [le_pred (by omega)])]
    refine am_if_ne fx 30 dX7_dropped_23 (by decide) (fun c23 => ?_) (fun c23 => ?_)
    · try simp (disch := omega) only [bz_0, Classical.not_not, Int32.not_le, Int32.not_lt, Nat.not_le, Nat.not_lt, nI_leI, nI_ltI, nI_eq, nI_le0, nI_lt0] at c23
      obtain ⟨x, hx, rfl⟩ := nI_rg2 c23 (by omega)
      have hcl : (nI x).toNatClampNeg = x := nI_clamp (by omega)
      refine am_aload_n fx dX7_dropped_30 rfl ?_
      refine am_getR fx dX7_dropped_31 fkX7_27 (by decide) (by decide) rfl (so7 hb) (rf7_19 hb) ?_
      refine am_iload_n fx dX7_dropped_34 rfl ?_
      refine am_iald (j := x) fx dX7_dropped_35 (sa7_19 hb) rfl (by omega) (by decide) (ho.xu (by omega)) ?_
      refine am_if_ne fx 44 dX7_dropped_36 (by decide) (fun c36 => ?_) (fun c36 => ?_)
      · skip
        refine am_aload_n fx dX7_dropped_44 rfl ?_
        refine am_getR fx dX7_dropped_45 fkX7_27 (by decide) (by decide) rfl (so7 hb) (rf7_19 hb) ?_
        refine am_iload_n fx dX7_dropped_48 rfl ?_
        refine am_iald (j := x) fx dX7_dropped_49 (sa7_19 hb) rfl (by omega) (by decide) (ho.xu (by omega)) ?_
        exact am_iret fx dX7_dropped_50 ⟨by rw [if_pos c23, hcl, if_neg c36], hM0⟩
      · skip
        refine am_bipush (v := (-3)) fx dX7_dropped_39 (by decide) ?_
        refine am_goto fx 50 dX7_dropped_41 (by decide) ?_
        exact am_iret fx dX7_dropped_50 ⟨by rw [if_pos c23, hcl, if_pos c36], hM0⟩
    · try simp (disch := omega) only [bz_0, Classical.not_not, Int32.not_le, Int32.not_lt, Nat.not_le, Nat.not_lt, nI_leI, nI_ltI, nI_eq, nI_le0, nI_lt0] at c23
      refine am_iconst (v := (-1)) fx dX7_dropped_26 (by decide) ?_
      refine am_goto fx 50 dX7_dropped_27 (by decide) ?_
      exact am_iret fx dX7_dropped_50 ⟨by rw [if_neg c23], hM0⟩
set_option maxRecDepth 100000 in
set_option maxHeartbeats 4000000 in
theorem ct_X7_rank {E : am_E} {μ : am_M} (hb : Bs μ) {En Rd pl : Nat} {od : Nat → Nat} {ou : Nat → Int32} (ho : Mo μ En Rd pl od ou) {S N : Nat} {cs : Nat → Nat → Int32} (hm : Mt μ S N cs) {kd : Int32} (h6 : mm_I μ 46 6 = kd) (hk0 : 0 ≤ kd) (x : Int32) : am_Ct E yX7_rank cX7_rank 2 (some .int) rmX7_rank [.ref 46, .int x] μ (fun v μ' => v = some (.int (if (0 ≤ x ∧ x < nI En) ∧ ou x.toNatClampNeg = 0 then nI (rkN (fun s => decide (ou s = 0)) (fun s r => cs s (od r)) Rd x.toNatClampNeg En) else -1)) ∧ μ' = mm_sI μ 46 0 0) := by
  refine am_Ct.of (ls := [some (.ref 46), some (.int x)]) (by decide) (Nat.le_of_ble_eq_true rfl) rfl (fun C fx hnm => ?_)
  have hE := ho.e
  have hR := ho.r
  have hP := ho.p
  refine am_aload_n fx dX7_rank_0 rfl ?_
  refine am_iconst (v := 0) fx dX7_rank_1 (by decide) ?_
  refine am_putI fx dX7_rank_2 fkX7_43 (by decide) (by decide) rfl rfl (so7 hb) ?_
  have hb : Bs (mm_sI μ 46 0 0) := hb.fr (Fr.sI _ _ _ _)
  have hm : Mt (mm_sI μ 46 0 0) S N cs := hm.keep (mI_ne (Or.inr (by decide))) (mI_ne (Or.inr (by decide))) (fun k => mI_ne (Or.inl (by decide)))
  have ho : Mo (mm_sI μ 46 0 0) En Rd pl od ou := ho.keep (mI_ne (Or.inr (by decide))) (mI_ne (Or.inr (by decide))) (mI_ne (Or.inr (by decide))) (fun k => mI_ne (Or.inl (by decide))) (fun k => mI_ne (Or.inl (by decide)))
  have h6 : mm_I (mm_sI μ 46 0 0) 46 6 = kd := (mI_ne (Or.inr (by decide))).trans h6
  obtain ⟨μ0, hM0⟩ : ∃ z, z = mm_sI μ 46 0 0 := ⟨_, rfl⟩
  rw [← hM0] at hb hm ho h6
  refine am_mem hM0.symm ?_
  refine am_aload_n fx dX7_rank_5 rfl ?_
  refine am_getI fx dX7_rank_6 fkX7_20 (by decide) (by decide) rfl (so7 hb) h6 ?_
  refine am_if_lt fx 35 dX7_rank_9 (by decide) (fun c9 => ?_) (fun c9 => ?_)
  · skip
    exact absurd c9 (Int32.not_lt.mpr hk0)
  · skip
    refine am_iload_n fx dX7_rank_12 rfl ?_
    refine am_iconst (v := 0) fx dX7_rank_13 (by decide) ?_
    refine am_aload_n fx dX7_rank_14 rfl ?_
    refine am_getI fx dX7_rank_15 fkX7_69 (by decide) (by decide) rfl (so7 hb) ho.1 ?_
    refine am_iconst (v := 1) fx dX7_rank_18 (by decide) ?_
    refine am_isub fx dX7_rank_19 ?_
    refine am_callS fx dX7_rank_20 mkX7_49 (ct_X7_in _ _ _) rfl (Nat.le_of_ble_eq_true rfl) ⟨by decide, by decide⟩ ⟨Nat.le_of_ble_eq_true rfl, Nat.le_of_ble_eq_true rfl⟩ rfl ?_
    rintro _ _ ⟨rfl, rfl⟩
    rw [bz_congr (show (0 ≤ x ∧ x ≤ nI En - 1) ↔ (0 ≤ x ∧ x < nI En) by rw [le_pred (by omega)])]
    refine am_if_eq fx 35 dX7_rank_23 (by decide) (fun c23 => ?_) (fun c23 => ?_)
    · try simp (disch := omega) only [bz_0, Classical.not_not, Int32.not_le, Int32.not_lt, Nat.not_le, Nat.not_lt, nI_leI, nI_ltI, nI_eq, nI_le0, nI_lt0] at c23
      refine am_iconst (v := (-1)) fx dX7_rank_35 (by decide) ?_
      refine am_goto fx 44 dX7_rank_36 (by decide) ?_
      exact am_iret fx dX7_rank_44 ⟨by rw [if_neg (fun h => c23 h.1)], hM0⟩
    · try simp (disch := omega) only [bz_0, Classical.not_not, Int32.not_le, Int32.not_lt, Nat.not_le, Nat.not_lt, nI_leI, nI_ltI, nI_eq, nI_le0, nI_lt0] at c23
      have hc23 := c23
      obtain ⟨x, hx, rfl⟩ := nI_rg2 c23 (by omega)
      have hcl : (nI x).toNatClampNeg = x := nI_clamp (by omega)
      refine am_aload_n fx dX7_rank_26 rfl ?_
      refine am_getR fx dX7_rank_27 fkX7_27 (by decide) (by decide) rfl (so7 hb) (rf7_19 hb) ?_
      refine am_iload_n fx dX7_rank_30 rfl ?_
      refine am_iald (j := x) fx dX7_rank_31 (sa7_19 hb) rfl (by omega) (by decide) (ho.xu (by omega)) ?_
      refine am_if_eq fx 39 dX7_rank_32 (by decide) (fun c32 => ?_) (fun c32 => ?_)
      · skip
        refine am_aload_n fx dX7_rank_39 rfl ?_
        refine am_iload_n fx dX7_rank_40 rfl ?_
        refine am_callV fx dX7_rank_41 mkX7_117 (ct_X7_rankOf hb ho hm x (by omega)) (so7 hb) ⟨by decide, rfl⟩ rfl (Nat.le_of_ble_eq_true rfl) ⟨by decide, by decide⟩ ⟨Nat.le_of_ble_eq_true rfl, Nat.le_of_ble_eq_true rfl⟩ rfl ?_
        rintro _ _ ⟨rfl, rfl⟩
        exact am_iret fx dX7_rank_44 ⟨by rw [if_pos ⟨hc23, by rw [hcl]; exact c32⟩, hcl], hM0⟩
      · skip
        refine am_iconst (v := (-1)) fx dX7_rank_35 (by decide) ?_
        refine am_goto fx 44 dX7_rank_36 (by decide) ?_
        exact am_iret fx dX7_rank_44 ⟨by rw [if_neg (fun h => c32 (by have h2 := h.2; rw [hcl] at h2; exact h2))], hM0⟩
set_option maxRecDepth 100000 in
set_option maxHeartbeats 4000000 in
theorem ct_X7_left {E : am_E} {μ : am_M} (hb : Bs μ) {En Rd pl : Nat} {od : Nat → Nat} {ou : Nat → Int32} (ho : Mo μ En Rd pl od ou) {kd : Int32} (h6 : mm_I μ 46 6 = kd) (hk0 : 0 ≤ kd) (k : Int32) : am_Ct E yX7_left cX7_left 4 (some .int) rmX7_left [.ref 46, .int k] μ (fun v μ' => v = some (.int (if k = -1 then nI (cnt (fun s => decide (ou s = 0)) En) else (if 0 ≤ k then enO (-1) (kth (fun s => decide (ou s = 0)) En k.toNatClampNeg) else -1))) ∧ μ' = mm_sI μ 46 0 0) := by
  refine am_Ct.of (ls := [some (.ref 46), some (.int k), none, none]) (by decide) (Nat.le_of_ble_eq_true rfl) rfl (fun C fx hnm => ?_)
  have hE := ho.e
  have hR := ho.r
  have hP := ho.p
  refine am_aload_n fx dX7_left_0 rfl ?_
  refine am_iconst (v := 0) fx dX7_left_1 (by decide) ?_
  refine am_putI fx dX7_left_2 fkX7_43 (by decide) (by decide) rfl rfl (so7 hb) ?_
  have hb : Bs (mm_sI μ 46 0 0) := hb.fr (Fr.sI _ _ _ _)
  have ho : Mo (mm_sI μ 46 0 0) En Rd pl od ou := ho.keep (mI_ne (Or.inr (by decide))) (mI_ne (Or.inr (by decide))) (mI_ne (Or.inr (by decide))) (fun k => mI_ne (Or.inl (by decide))) (fun k => mI_ne (Or.inl (by decide)))
  have h6 : mm_I (mm_sI μ 46 0 0) 46 6 = kd := (mI_ne (Or.inr (by decide))).trans h6
  obtain ⟨μ0, hM0⟩ : ∃ z, z = mm_sI μ 46 0 0 := ⟨_, rfl⟩
  rw [← hM0] at hb ho h6
  refine am_mem hM0.symm ?_
  refine am_aload_n fx dX7_left_5 rfl ?_
  refine am_getI fx dX7_left_6 fkX7_20 (by decide) (by decide) rfl (so7 hb) h6 ?_
  refine am_if_ge fx 14 dX7_left_9 (by decide) (fun c9 => ?_) (fun c9 => ?_)
  · skip
    refine am_iload_n fx dX7_left_14 rfl ?_
    refine am_iconst (v := (-1)) fx dX7_left_15 (by decide) ?_
    refine am_icmp_ne fx 24 dX7_left_16 (by decide) (fun c16 => ?_) (fun c16 => ?_)
    · skip
      refine am_iconst (v := 0) fx dX7_left_24 (by decide) ?_
      refine am_istore_n fx dX7_left_25 (by decide) rfl ?_
      refine am_iconst (v := 0) fx dX7_left_26 (by decide) ?_
      refine am_istore_n fx dX7_left_27 (by decide) rfl ?_
      have lp28 : ∀ (mz : Nat) (r : Nat) (x : Int32), En - r = mz → r ≤ En → x = nI (cnt (fun s => decide (ou s = 0)) r) → (∀ j, j < r → ou j = 0 → ¬ nI (cnt (fun s => decide (ou s = 0)) j) = k) → am_W E C (am_MQ E C (fun v μ' => v = some (.int (if k = -1 then nI (cnt (fun s => decide (ou s = 0)) En) else (if 0 ≤ k then enO (-1) (kth (fun s => decide (ou s = 0)) En k.toNatClampNeg) else -1))) ∧ μ' = mm_sI μ 46 0 0) (rmX7_left).cells (rmX7_left).slots) μ0 0 0 28 [some (.ref 46), some (.int k), some (.int x), some (.int (nI r))] [] := by
        intro mz
        induction mz using Nat.strongRecOn with
        | ind mz ih =>
          intro r x hn hr1 hx hno
          have hc := cnt_le (fun s => decide (ou s = 0)) r
          refine am_iload_n fx dX7_left_28 rfl ?_
          refine am_aload_n fx dX7_left_29 rfl ?_
          refine am_getI fx dX7_left_30 fkX7_69 (by decide) (by decide) rfl (so7 hb) ho.1 ?_
          refine am_icmp_ge fx 61 dX7_left_33 (by decide) (fun c33 => ?_) (fun c33 => ?_)
          · try simp (disch := omega) only [bz_0, Classical.not_not, Int32.not_le, Int32.not_lt, Nat.not_le, Nat.not_lt, nI_leI, nI_ltI, nI_eq, nI_le0, nI_lt0] at c33
            refine am_iconst (v := (-1)) fx dX7_left_61 (by decide) ?_
            exact am_iret fx dX7_left_62 ⟨by rw [if_neg c16]; exact rem_no (by omega) (fun j hj h2 => hno j (by omega) (by simpa using h2)), hM0⟩
          · try simp (disch := omega) only [bz_0, Classical.not_not, Int32.not_le, Int32.not_lt, Nat.not_le, Nat.not_lt, nI_leI, nI_ltI, nI_eq, nI_le0, nI_lt0] at c33
            refine am_aload_n fx dX7_left_36 rfl ?_
            refine am_getR fx dX7_left_37 fkX7_27 (by decide) (by decide) rfl (so7 hb) (rf7_19 hb) ?_
            refine am_iload_n fx dX7_left_40 rfl ?_
            refine am_iald (j := r) fx dX7_left_41 (sa7_19 hb) rfl (by omega) (by decide) (ho.xu (by omega)) ?_
            refine am_if_ne fx 55 dX7_left_42 (by decide) (fun c42 => ?_) (fun c42 => ?_)
            · skip
              first | refine am_iinc fx dX7_left_55 rfl (nI_inc _) (by decide) rfl ?_ | refine am_iinc fx dX7_left_55 rfl rfl (by decide) rfl ?_
              refine am_goto fx 28 dX7_left_58 (by decide) ?_
              exact ih (En - (r + 1)) (by omega) (r + 1) _ rfl (by omega) (by rw [hx, cnt, if_neg (by simpa using c42)]; rfl) (fun j h1 h2 => by rcases Nat.lt_or_ge j r with z | z; exact hno j z h2; rw [show j = r by omega] at h2 ⊢; exact absurd h2 c42)
            · skip
              refine am_iload_n fx dX7_left_45 rfl ?_
              refine am_iload_n fx dX7_left_46 rfl ?_
              refine am_icmp_ne fx 52 dX7_left_47 (by decide) (fun c47 => ?_) (fun c47 => ?_)
              · skip
                first | refine am_iinc fx dX7_left_52 rfl (nI_inc _) (by decide) rfl ?_ | refine am_iinc fx dX7_left_52 rfl rfl (by decide) rfl ?_
                first | refine am_iinc fx dX7_left_55 rfl (nI_inc _) (by decide) rfl ?_ | refine am_iinc fx dX7_left_55 rfl rfl (by decide) rfl ?_
                refine am_goto fx 28 dX7_left_58 (by decide) ?_
                exact ih (En - (r + 1)) (by omega) (r + 1) _ rfl (by omega) (by rw [hx, cnt, if_pos (by simpa using c42)]; exact nI_inc _) (fun j h1 h2 => by rcases Nat.lt_or_ge j r with z | z; exact hno j z h2; rw [show j = r by omega] at h2 ⊢; rw [← hx]; exact c47)
              · skip
                refine am_iload_n fx dX7_left_50 rfl ?_
                exact am_iret fx dX7_left_51 ⟨by rw [if_neg c16]; exact rem_in (by omega) (by simpa using c42) (hx ▸ c47) (by omega) (fun j hj h2 => hno j hj (by simpa using h2)), hM0⟩
      exact lp28 _ 0 _ rfl (by omega) rfl (fun j h => by omega)
    · skip
      refine am_aload_n fx dX7_left_19 rfl ?_
      refine am_callV fx dX7_left_20 mkX7_72 (ct_X7_leftMany hb ho) (so7 hb) ⟨by decide, rfl⟩ rfl (Nat.le_of_ble_eq_true rfl) ⟨by decide, by decide⟩ ⟨Nat.le_of_ble_eq_true rfl, Nat.le_of_ble_eq_true rfl⟩ rfl ?_
      rintro _ _ ⟨rfl, rfl⟩
      exact am_iret fx dX7_left_23 ⟨by rw [if_pos c16], hM0⟩
  · skip
    exact absurd hk0 c9
set_option maxRecDepth 100000 in
set_option maxHeartbeats 4000000 in
theorem ct_X7_raceOf {E : am_E} {μ : am_M} (hb : Bs μ) {En Rd pl : Nat} {od : Nat → Nat} {ou : Nat → Int32} (ho : Mo μ En Rd pl od ou) {S N : Nat} {cs : Nat → Nat → Int32} (hm : Mt μ S N cs) {kd : Int32} (h6 : mm_I μ 46 6 = kd) (hk0 : 0 ≤ kd) {ov rn : Int32} (h17 : mm_I μ 46 17 = ov) (h16 : mm_I μ 46 16 = rn) (x : Int32) : am_Ct E yX7_raceOf cX7_raceOf 2 (some .int) rmX7_raceOf [.ref 46, .int x] μ (fun v μ' => (¬ (0 ≤ x ∧ x ≤ 4) ∧ v = some (.int (-2)) ∧ μ' = mm_sI μ 46 0 0) ∨ ((0 ≤ x ∧ x ≤ 4) ∧ v = some (.int (if x = 0 then ov else if x = 1 then nI Rd else if x = 2 then rn else if x = 3 then enO (-1) (am1 (fun s => decide (ou s = 0)) (fun x => nI (rkN (fun s => decide (ou s = 0)) (fun s r => cs s (od r)) Rd x En)) En) else nI En - nI (cnt (fun s => decide (ou s = 0)) En))) ∧ μ' = mm_sI μ 46 0 0)) := by
  refine am_Ct.of (ls := [some (.ref 46), some (.int x)]) (by decide) (Nat.le_of_ble_eq_true rfl) rfl (fun C fx hnm => ?_)
  have hE := ho.e
  have hR := ho.r
  have hP := ho.p
  refine am_aload_n fx dX7_raceOf_0 rfl ?_
  refine am_iconst (v := 0) fx dX7_raceOf_1 (by decide) ?_
  refine am_putI fx dX7_raceOf_2 fkX7_43 (by decide) (by decide) rfl rfl (so7 hb) ?_
  have hb : Bs (mm_sI μ 46 0 0) := hb.fr (Fr.sI _ _ _ _)
  have hm : Mt (mm_sI μ 46 0 0) S N cs := hm.keep (mI_ne (Or.inr (by decide))) (mI_ne (Or.inr (by decide))) (fun k => mI_ne (Or.inl (by decide)))
  have ho : Mo (mm_sI μ 46 0 0) En Rd pl od ou := ho.keep (mI_ne (Or.inr (by decide))) (mI_ne (Or.inr (by decide))) (mI_ne (Or.inr (by decide))) (fun k => mI_ne (Or.inl (by decide))) (fun k => mI_ne (Or.inl (by decide)))
  have h6 : mm_I (mm_sI μ 46 0 0) 46 6 = kd := (mI_ne (Or.inr (by decide))).trans h6
  have h17 : mm_I (mm_sI μ 46 0 0) 46 17 = ov := (mI_ne (Or.inr (by decide))).trans h17
  have h16 : mm_I (mm_sI μ 46 0 0) 46 16 = rn := (mI_ne (Or.inr (by decide))).trans h16
  obtain ⟨μ0, hM0⟩ : ∃ z, z = mm_sI μ 46 0 0 := ⟨_, rfl⟩
  rw [← hM0] at hb hm ho h6 h17 h16
  refine am_mem hM0.symm ?_
  refine am_iload_n fx dX7_raceOf_5 rfl ?_
  refine am_iconst (v := 0) fx dX7_raceOf_6 (by decide) ?_
  refine am_iconst (v := 4) fx dX7_raceOf_7 (by decide) ?_
  refine am_callS fx dX7_raceOf_8 mkX7_49 (ct_X7_in _ _ _) rfl (Nat.le_of_ble_eq_true rfl) ⟨by decide, by decide⟩ ⟨Nat.le_of_ble_eq_true rfl, Nat.le_of_ble_eq_true rfl⟩ rfl ?_
  rintro _ _ ⟨rfl, rfl⟩
  refine am_if_ne fx 17 dX7_raceOf_11 (by decide) (fun c11 => ?_) (fun c11 => ?_)
  · try simp (disch := omega) only [bz_0, Classical.not_not, Int32.not_le, Int32.not_lt, Nat.not_le, Nat.not_lt, nI_leI, nI_ltI, nI_eq, nI_le0, nI_lt0] at c11
    refine am_aload_n fx dX7_raceOf_17 rfl ?_
    refine am_getI fx dX7_raceOf_18 fkX7_20 (by decide) (by decide) rfl (so7 hb) h6 ?_
    refine am_if_ge fx 27 dX7_raceOf_21 (by decide) (fun c21 => ?_) (fun c21 => ?_)
    · skip
      refine am_iload_n fx dX7_raceOf_27 rfl ?_
      refine am_if_ne fx 38 dX7_raceOf_28 (by decide) (fun c28 => ?_) (fun c28 => ?_)
      · skip
        refine am_iload_n fx dX7_raceOf_38 rfl ?_
        refine am_iconst (v := 1) fx dX7_raceOf_39 (by decide) ?_
        refine am_icmp_ne fx 50 dX7_raceOf_40 (by decide) (fun c40 => ?_) (fun c40 => ?_)
        · skip
          refine am_iload_n fx dX7_raceOf_50 rfl ?_
          refine am_iconst (v := 2) fx dX7_raceOf_51 (by decide) ?_
          refine am_icmp_ne fx 62 dX7_raceOf_52 (by decide) (fun c52 => ?_) (fun c52 => ?_)
          · skip
            refine am_iload_n fx dX7_raceOf_62 rfl ?_
            refine am_iconst (v := 3) fx dX7_raceOf_63 (by decide) ?_
            refine am_icmp_ne fx 74 dX7_raceOf_64 (by decide) (fun c64 => ?_) (fun c64 => ?_)
            · skip
              refine am_aload_n fx dX7_raceOf_74 rfl ?_
              refine am_getI fx dX7_raceOf_75 fkX7_69 (by decide) (by decide) rfl (so7 hb) ho.1 ?_
              refine am_aload_n fx dX7_raceOf_78 rfl ?_
              refine am_callV fx dX7_raceOf_79 mkX7_72 (ct_X7_leftMany hb ho) (so7 hb) ⟨by decide, rfl⟩ rfl (Nat.le_of_ble_eq_true rfl) ⟨by decide, by decide⟩ ⟨Nat.le_of_ble_eq_true rfl, Nat.le_of_ble_eq_true rfl⟩ rfl ?_
              rintro _ _ ⟨rfl, rfl⟩
              refine am_isub fx dX7_raceOf_82 ?_
              exact am_iret fx dX7_raceOf_83 (Or.inr ⟨c11, by rw [if_neg c28, if_neg c40, if_neg c52, if_neg c64], hM0⟩)
            · skip
              refine am_aload_n fx dX7_raceOf_67 rfl ?_
              refine am_callV fx dX7_raceOf_68 mkX7_121 (ct_X7_leader hb ho hm) (so7 hb) ⟨by decide, rfl⟩ rfl (Nat.le_of_ble_eq_true rfl) ⟨by decide, by decide⟩ ⟨Nat.le_of_ble_eq_true rfl, Nat.le_of_ble_eq_true rfl⟩ rfl ?_
              rintro _ _ ⟨rfl, rfl⟩
              refine am_goto fx 83 dX7_raceOf_71 (by decide) ?_
              exact am_iret fx dX7_raceOf_83 (Or.inr ⟨c11, by rw [if_neg c28, if_neg c40, if_neg c52, if_pos c64], hM0⟩)
          · skip
            refine am_aload_n fx dX7_raceOf_55 rfl ?_
            refine am_getI fx dX7_raceOf_56 fkX7_88 (by decide) (by decide) rfl (so7 hb) h16 ?_
            refine am_goto fx 83 dX7_raceOf_59 (by decide) ?_
            exact am_iret fx dX7_raceOf_83 (Or.inr ⟨c11, by rw [if_neg c28, if_neg c40, if_pos c52], hM0⟩)
        · skip
          refine am_aload_n fx dX7_raceOf_43 rfl ?_
          refine am_getI fx dX7_raceOf_44 fkX7_79 (by decide) (by decide) rfl (so7 hb) ho.2.1 ?_
          refine am_goto fx 83 dX7_raceOf_47 (by decide) ?_
          exact am_iret fx dX7_raceOf_83 (Or.inr ⟨c11, by rw [if_neg c28, if_pos c40], hM0⟩)
      · skip
        refine am_aload_n fx dX7_raceOf_31 rfl ?_
        refine am_getI fx dX7_raceOf_32 fkX7_91 (by decide) (by decide) rfl (so7 hb) h17 ?_
        refine am_goto fx 83 dX7_raceOf_35 (by decide) ?_
        exact am_iret fx dX7_raceOf_83 (Or.inr ⟨c11, by rw [if_pos c28], hM0⟩)
    · skip
      exact absurd hk0 c21
  · try simp (disch := omega) only [bz_0, Classical.not_not, Int32.not_le, Int32.not_lt, Nat.not_le, Nat.not_lt, nI_leI, nI_ltI, nI_eq, nI_le0, nI_lt0] at c11
    refine am_bipush (v := (-2)) fx dX7_raceOf_14 (by decide) ?_
    exact am_iret fx dX7_raceOf_16 (Or.inl ⟨c11, rfl, hM0⟩)
set_option maxRecDepth 100000 in
set_option maxHeartbeats 4000000 in
theorem ct_X7_wants {E : am_E} {μ : am_M} (hb : Bs μ) {En Rd pl : Nat} {od : Nat → Nat} {ou : Nat → Int32} (ho : Mo μ En Rd pl od ou) {kd : Int32} (h6 : mm_I μ 46 6 = kd) (hk0 : 0 ≤ kd) {ov tn : Int32} (h17 : mm_I μ 46 17 = ov) (h18 : mm_I μ 46 18 = tn) (hon : ov = 0 → Rd < pl) (x : Int32) : am_Ct E yX7_wants cX7_wants 2 (some .int) rmX7_wants [.ref 46, .int x] μ (fun v μ' => v = some (.int (if 0 ≤ x ∧ x ≤ 1 then (if ov = 0 then (if x = 0 then tn else nI (od Rd)) else -3) else -2)) ∧ μ' = mm_sI μ 46 0 0) := by
  refine am_Ct.of (ls := [some (.ref 46), some (.int x)]) (by decide) (Nat.le_of_ble_eq_true rfl) rfl (fun C fx hnm => ?_)
  have hE := ho.e
  have hR := ho.r
  have hP := ho.p
  refine am_aload_n fx dX7_wants_0 rfl ?_
  refine am_iconst (v := 0) fx dX7_wants_1 (by decide) ?_
  refine am_putI fx dX7_wants_2 fkX7_43 (by decide) (by decide) rfl rfl (so7 hb) ?_
  have hb : Bs (mm_sI μ 46 0 0) := hb.fr (Fr.sI _ _ _ _)
  have ho : Mo (mm_sI μ 46 0 0) En Rd pl od ou := ho.keep (mI_ne (Or.inr (by decide))) (mI_ne (Or.inr (by decide))) (mI_ne (Or.inr (by decide))) (fun k => mI_ne (Or.inl (by decide))) (fun k => mI_ne (Or.inl (by decide)))
  have h6 : mm_I (mm_sI μ 46 0 0) 46 6 = kd := (mI_ne (Or.inr (by decide))).trans h6
  have h17 : mm_I (mm_sI μ 46 0 0) 46 17 = ov := (mI_ne (Or.inr (by decide))).trans h17
  have h18 : mm_I (mm_sI μ 46 0 0) 46 18 = tn := (mI_ne (Or.inr (by decide))).trans h18
  obtain ⟨μ0, hM0⟩ : ∃ z, z = mm_sI μ 46 0 0 := ⟨_, rfl⟩
  rw [← hM0] at hb ho h6 h17 h18
  refine am_mem hM0.symm ?_
  refine am_iload_n fx dX7_wants_5 rfl ?_
  refine am_iconst (v := 0) fx dX7_wants_6 (by decide) ?_
  refine am_iconst (v := 1) fx dX7_wants_7 (by decide) ?_
  refine am_callS fx dX7_wants_8 mkX7_49 (ct_X7_in _ _ _) rfl (Nat.le_of_ble_eq_true rfl) ⟨by decide, by decide⟩ ⟨Nat.le_of_ble_eq_true rfl, Nat.le_of_ble_eq_true rfl⟩ rfl ?_
  rintro _ _ ⟨rfl, rfl⟩
  refine am_if_ne fx 17 dX7_wants_11 (by decide) (fun c11 => ?_) (fun c11 => ?_)
  · try simp (disch := omega) only [bz_0, Classical.not_not, Int32.not_le, Int32.not_lt, Nat.not_le, Nat.not_lt, nI_leI, nI_ltI, nI_eq, nI_le0, nI_lt0] at c11
    refine am_aload_n fx dX7_wants_17 rfl ?_
    refine am_callV fx dX7_wants_18 mkX7_110 (ct_X7_isOn hb) (so7 hb) ⟨by decide, rfl⟩ rfl (Nat.le_of_ble_eq_true rfl) ⟨by decide, by decide⟩ ⟨Nat.le_of_ble_eq_true rfl, Nat.le_of_ble_eq_true rfl⟩ rfl ?_
    rintro _ _ ⟨rfl, rfl⟩
    rw [bz_congr (show (0 ≤ mm_I μ0 46 6 ∧ mm_I μ0 46 17 = 0) ↔ ov = 0 by rw [h6, h17]; exact ⟨fun z => z.2, fun z => ⟨hk0, z⟩⟩)]
    refine am_if_ne fx 29 dX7_wants_21 (by decide) (fun c21 => ?_) (fun c21 => ?_)
    · try simp (disch := omega) only [bz_0, Classical.not_not, Int32.not_le, Int32.not_lt, Nat.not_le, Nat.not_lt, nI_leI, nI_ltI, nI_eq, nI_le0, nI_lt0] at c21
      refine am_iload_n fx dX7_wants_29 rfl ?_
      refine am_if_ne fx 40 dX7_wants_30 (by decide) (fun c30 => ?_) (fun c30 => ?_)
      · skip
        refine am_aload_n fx dX7_wants_40 rfl ?_
        refine am_getR fx dX7_wants_41 fkX7_24 (by decide) (by decide) rfl (so7 hb) (rf7_14 hb) ?_
        refine am_aload_n fx dX7_wants_44 rfl ?_
        refine am_getI fx dX7_wants_45 fkX7_79 (by decide) (by decide) rfl (so7 hb) ho.2.1 ?_
        refine am_iald (j := Rd) fx dX7_wants_48 (sa7_14 hb) rfl (by have := hon c21; omega) (by decide) (ho.xo (hon c21)) ?_
        exact am_iret fx dX7_wants_49 ⟨by rw [if_pos c11, if_pos c21, if_neg c30], hM0⟩
      · skip
        refine am_aload_n fx dX7_wants_33 rfl ?_
        refine am_getI fx dX7_wants_34 fkX7_94 (by decide) (by decide) rfl (so7 hb) h18 ?_
        refine am_goto fx 49 dX7_wants_37 (by decide) ?_
        exact am_iret fx dX7_wants_49 ⟨by rw [if_pos c11, if_pos c21, if_pos c30], hM0⟩
    · try simp (disch := omega) only [bz_0, Classical.not_not, Int32.not_le, Int32.not_lt, Nat.not_le, Nat.not_lt, nI_leI, nI_ltI, nI_eq, nI_le0, nI_lt0] at c21
      refine am_bipush (v := (-3)) fx dX7_wants_24 (by decide) ?_
      refine am_goto fx 49 dX7_wants_26 (by decide) ?_
      exact am_iret fx dX7_wants_49 ⟨by rw [if_pos c11, if_neg c21], hM0⟩
  · try simp (disch := omega) only [bz_0, Classical.not_not, Int32.not_le, Int32.not_lt, Nat.not_le, Nat.not_lt, nI_leI, nI_ltI, nI_eq, nI_le0, nI_lt0] at c11
    refine am_bipush (v := (-2)) fx dX7_wants_14 (by decide) ?_
    exact am_iret fx dX7_wants_16 ⟨by rw [if_neg c11], hM0⟩
def ovF (n least rd pl bg rn : Int32) : Int32 := if n = 1 ∨ n ≤ least then 1 else if rd = pl then 2 else if bg - rn < n then 3 else 0
def fsN (b : Nat → Bool) (n i : Nat) : Nat := (frst b n i).getD n
theorem fsN_here {b : Nat → Bool} {n i : Nat} (hi : i < n) (h : b i = true) : fsN b n i = i := by
  unfold fsN frst
  rw [find_up hi (by simp [h]) (fun j hj => by simp [show ¬ i ≤ j by omega])]
  rfl
theorem fsN_end {b : Nat → Bool} {n i : Nat} (hi : n ≤ i) : fsN b n i = n := by
  unfold fsN frst
  rw [find_no (fun j hj => by simp [show ¬ i ≤ j by omega])]
  rfl
theorem fsN_step {b : Nat → Bool} {n i : Nat} (h : ¬ b i = true) : fsN b n i = fsN b n (i + 1) := by
  unfold fsN frst
  congr 2
  funext s
  by_cases e : s = i
  · subst e
    rw [show b s = false by simpa using h]
    simp
  · by_cases h2 : i ≤ s
    · simp [h2, show i + 1 ≤ s by omega]
    · simp [h2, show ¬ i + 1 ≤ s by omega]
set_option maxRecDepth 100000 in
set_option maxHeartbeats 4000000 in
theorem ct_X7_look {E : am_E} {μ : am_M} (hb : Bs μ) {En Rd pl : Nat} {od : Nat → Nat} {ou : Nat → Int32} (ho : Mo μ En Rd pl od ou) {ls bg rn : Int32} (h10 : mm_I μ 46 10 = ls) (h11 : mm_I μ 46 11 = bg) (h16 : mm_I μ 46 16 = rn) : am_Ct E yX7_look cX7_look 2 none rmX7_look [.ref 46] μ (fun v μ' => v = none ∧ μ' = (mm_sI (mm_sI μ 46 17 (ovF (nI (cnt (fun s => decide (ou s = 0)) En)) ls (nI Rd) (nI pl) bg rn)) 46 18 (nI (fsN (fun s => decide (ou s = 0)) En 0)))) := by
  refine am_Ct.of (ls := [some (.ref 46), none]) (by decide) (Nat.le_of_ble_eq_true rfl) rfl (fun C fx hnm => ?_)
  have hE := ho.e
  have hR := ho.r
  have hP := ho.p
  refine am_aload_n fx dX7_look_0 rfl ?_
  refine am_callV fx dX7_look_1 mkX7_72 (ct_X7_leftMany hb ho) (so7 hb) ⟨by decide, rfl⟩ rfl (Nat.le_of_ble_eq_true rfl) ⟨by decide, by decide⟩ ⟨Nat.le_of_ble_eq_true rfl, Nat.le_of_ble_eq_true rfl⟩ rfl ?_
  rintro _ _ ⟨rfl, rfl⟩
  
  refine am_istore_n fx dX7_look_4 (by decide) rfl ?_
  have ct56 : am_W E C (am_MQ E C (fun v μ' => v = none ∧ μ' = (mm_sI (mm_sI μ 46 17 (ovF (nI (cnt (fun s => decide (ou s = 0)) En)) ls (nI Rd) (nI pl) bg rn)) 46 18 (nI (fsN (fun s => decide (ou s = 0)) En 0)))) (rmX7_look).cells (rmX7_look).slots) μ 0 0 56 [some (.ref 46), none] [.int (ovF (nI (cnt (fun s => decide (ou s = 0)) En)) ls (nI Rd) (nI pl) bg rn), .ref 46] := by
    refine am_putI fx dX7_look_56 fkX7_91 (by decide) (by decide) rfl rfl (so7 hb) ?_
    refine am_aload_n fx dX7_look_59 rfl ?_
    refine am_iconst (v := 0) fx dX7_look_60 (by decide) ?_
    refine am_putI fx dX7_look_61 fkX7_94 (by decide) (by decide) rfl rfl (so7 hb) ?_
    have lp64 : ∀ (mz : Nat) (r : Nat), En - r = mz → r ≤ En → fsN (fun s => decide (ou s = 0)) En r = fsN (fun s => decide (ou s = 0)) En 0 → am_W E C (am_MQ E C (fun v μ' => v = none ∧ μ' = (mm_sI (mm_sI μ 46 17 (ovF (nI (cnt (fun s => decide (ou s = 0)) En)) ls (nI Rd) (nI pl) bg rn)) 46 18 (nI (fsN (fun s => decide (ou s = 0)) En 0)))) (rmX7_look).cells (rmX7_look).slots) (mm_sI (mm_sI μ 46 17 (ovF (nI (cnt (fun s => decide (ou s = 0)) En)) ls (nI Rd) (nI pl) bg rn)) 46 18 (nI r)) 0 0 64 [some (.ref 46), none] [] := by
      intro mz
      induction mz using Nat.strongRecOn with
      | ind mz ih =>
        intro r hz hr hfs
        have hb2 : Bs (mm_sI (mm_sI μ 46 17 (ovF (nI (cnt (fun s => decide (ou s = 0)) En)) ls (nI Rd) (nI pl) bg rn)) 46 18 (nI r)) := hb.fr ⟨rfl, rfl, rfl⟩
        have e18 : mm_I (mm_sI (mm_sI μ 46 17 (ovF (nI (cnt (fun s => decide (ou s = 0)) En)) ls (nI Rd) (nI pl) bg rn)) 46 18 (nI r)) 46 18 = nI r := mI_same _ _ _ _
        have e12 : mm_I (mm_sI (mm_sI μ 46 17 (ovF (nI (cnt (fun s => decide (ou s = 0)) En)) ls (nI Rd) (nI pl) bg rn)) 46 18 (nI r)) 46 12 = nI En := (mI_ne (Or.inr (by decide))).trans ((mI_ne (Or.inr (by decide))).trans ho.1)
        have e51 : r < 12 → mm_I (mm_sI (mm_sI μ 46 17 (ovF (nI (cnt (fun s => decide (ou s = 0)) En)) ls (nI Rd) (nI pl) bg rn)) 46 18 (nI r)) 51 r = ou r := fun hr9 => by
          rw [mI_ne (Or.inl (by decide)), mI_ne (Or.inl (by decide))]
          exact ho.xu hr9
        refine am_aload_n fx dX7_look_64 rfl ?_
        refine am_getI fx dX7_look_65 fkX7_94 (by decide) (by decide) rfl (so7 hb2) e18 ?_
        refine am_aload_n fx dX7_look_68 rfl ?_
        refine am_getI fx dX7_look_69 fkX7_69 (by decide) (by decide) rfl (so7 hb2) e12 ?_
        refine am_icmp_ge fx 100 dX7_look_72 (by decide) (fun c72 => ?_) (fun c72 => ?_)
        · try simp (disch := omega) only [bz_0, Classical.not_not, Int32.not_le, Int32.not_lt, Nat.not_le, Nat.not_lt, nI_leI, nI_ltI, nI_eq, nI_le0, nI_lt0] at c72
          exact am_vret fx dX7_look_100 ⟨rfl, by rw [← hfs, fsN_end (by omega), show En = r by omega]⟩
        · try simp (disch := omega) only [bz_0, Classical.not_not, Int32.not_le, Int32.not_lt, Nat.not_le, Nat.not_lt, nI_leI, nI_ltI, nI_eq, nI_le0, nI_lt0] at c72
          refine am_aload_n fx dX7_look_75 rfl ?_
          refine am_getR fx dX7_look_76 fkX7_27 (by decide) (by decide) rfl (so7 hb2) (rf7_19 hb2) ?_
          refine am_aload_n fx dX7_look_79 rfl ?_
          refine am_getI fx dX7_look_80 fkX7_94 (by decide) (by decide) rfl (so7 hb2) e18 ?_
          refine am_iald (j := r) fx dX7_look_83 (sa7_19 hb2) rfl (by omega) (by decide) (e51 (by omega)) ?_
          refine am_if_eq fx 100 dX7_look_84 (by decide) (fun c84 => ?_) (fun c84 => ?_)
          · skip
            exact am_vret fx dX7_look_100 ⟨rfl, by rw [← hfs, fsN_here (by omega) (by simp [c84])]⟩
          · skip
            refine am_aload_n fx dX7_look_87 rfl ?_
            refine am_dup_ref fx dX7_look_88 ?_
            refine am_getI fx dX7_look_89 fkX7_94 (by decide) (by decide) rfl (so7 hb2) e18 ?_
            refine am_iconst (v := 1) fx dX7_look_92 (by decide) ?_
            refine am_iadd fx dX7_look_93 ?_
            refine am_topi (nI_1 r) ?_
            refine am_putI fx dX7_look_94 fkX7_94 (by decide) (by decide) rfl rfl (so7 hb2) ?_
            refine am_goto fx 64 dX7_look_97 (by decide) ?_
            exact am_mem (sI_sI _ _ _ _ _) (ih (En - (r + 1)) (by omega) (r + 1) rfl (by omega) ((fsN_step (by simp [c84])).symm.trans hfs))
    exact lp64 _ 0 rfl (Nat.zero_le _) rfl
  refine am_aload_n fx dX7_look_5 rfl ?_
  refine am_iload_n fx dX7_look_6 rfl ?_
  refine am_iconst (v := 1) fx dX7_look_7 (by decide) ?_
  refine am_icmp_eq fx 19 dX7_look_8 (by decide) (fun c8 => ?_) (fun c8 => ?_)
  · skip
    refine am_iconst (v := 1) fx dX7_look_19 (by decide) ?_
    refine am_goto fx 56 dX7_look_20 (by decide) ?_
    refine am_topi (show _ = (ovF (nI (cnt (fun s => decide (ou s = 0)) En)) ls (nI Rd) (nI pl) bg rn) from by unfold ovF; rw [if_pos (Or.inl c8)]) ?_
    refine am_sub [true, false] rfl ?_
    exact ct56
  · skip
    refine am_iload_n fx dX7_look_11 rfl ?_
    refine am_aload_n fx dX7_look_12 rfl ?_
    refine am_getI fx dX7_look_13 fkX7_76 (by decide) (by decide) rfl (so7 hb) h10 ?_
    refine am_icmp_gt fx 23 dX7_look_16 (by decide) (fun c16 => ?_) (fun c16 => ?_)
    · skip
      refine am_aload_n fx dX7_look_23 rfl ?_
      refine am_getI fx dX7_look_24 fkX7_79 (by decide) (by decide) rfl (so7 hb) ho.2.1 ?_
      refine am_aload_n fx dX7_look_27 rfl ?_
      refine am_getI fx dX7_look_28 fkX7_82 (by decide) (by decide) rfl (so7 hb) ho.2.2.1 ?_
      refine am_icmp_ne fx 38 dX7_look_31 (by decide) (fun c31 => ?_) (fun c31 => ?_)
      · skip
        refine am_aload_n fx dX7_look_38 rfl ?_
        refine am_getI fx dX7_look_39 fkX7_85 (by decide) (by decide) rfl (so7 hb) h11 ?_
        refine am_aload_n fx dX7_look_42 rfl ?_
        refine am_getI fx dX7_look_43 fkX7_88 (by decide) (by decide) rfl (so7 hb) h16 ?_
        refine am_isub fx dX7_look_46 ?_
        refine am_iload_n fx dX7_look_47 rfl ?_
        refine am_icmp_ge fx 55 dX7_look_48 (by decide) (fun c48 => ?_) (fun c48 => ?_)
        · skip
          refine am_iconst (v := 0) fx dX7_look_55 (by decide) ?_
          refine am_topi (show _ = (ovF (nI (cnt (fun s => decide (ou s = 0)) En)) ls (nI Rd) (nI pl) bg rn) from by unfold ovF; rw [if_neg (fun z => z.elim c8 (Int32.not_le.mpr c16)), if_neg c31, if_neg (Int32.not_lt.mpr c48)]) ?_
          refine am_sub [true, false] rfl ?_
          exact ct56
        · skip
          have c48 := Int32.not_le.mp c48
          refine am_iconst (v := 3) fx dX7_look_51 (by decide) ?_
          refine am_goto fx 56 dX7_look_52 (by decide) ?_
          refine am_topi (show _ = (ovF (nI (cnt (fun s => decide (ou s = 0)) En)) ls (nI Rd) (nI pl) bg rn) from by unfold ovF; rw [if_neg (fun z => z.elim c8 (Int32.not_le.mpr c16)), if_neg c31, if_pos c48]) ?_
          refine am_sub [true, false] rfl ?_
          exact ct56
      · skip
        refine am_iconst (v := 2) fx dX7_look_34 (by decide) ?_
        refine am_goto fx 56 dX7_look_35 (by decide) ?_
        refine am_topi (show _ = (ovF (nI (cnt (fun s => decide (ou s = 0)) En)) ls (nI Rd) (nI pl) bg rn) from by unfold ovF; rw [if_neg (fun z => z.elim c8 (Int32.not_le.mpr c16)), if_pos c31]) ?_
        refine am_sub [true, false] rfl ?_
        exact ct56
    · skip
      have c16 := Int32.not_lt.mp c16
      refine am_iconst (v := 1) fx dX7_look_19 (by decide) ?_
      refine am_goto fx 56 dX7_look_20 (by decide) ?_
      refine am_topi (show _ = (ovF (nI (cnt (fun s => decide (ou s = 0)) En)) ls (nI Rd) (nI pl) bg rn) from by unfold ovF; rw [if_pos (Or.inr c16)]) ?_
      refine am_sub [true, false] rfl ?_
      exact ct56
