set_option maxRecDepth 100000 in
set_option maxHeartbeats 1600000 in
theorem ct_X7_odds {E : am_E} {μ : am_M} (hb : Bs μ) {En Rd pl : Nat} {od : Nat → Nat} {ou : Nat → Int32} (ho : Mo μ En Rd pl od ou) {S N : Nat} {cs : Nat → Nat → Int32} (hm : Mt μ S N cs) {kd : Int32} (h6 : mm_I μ 46 6 = kd) (hk0 : 0 ≤ kd) (hkd : kd = 0 ∨ kd = 1) (a b side : Int32) {rm : Nat → Nat} (hrm : ∀ s, s < En → (if ou s = 0 then nI Rd else ou s) = nI (rm s) ∧ rm s ≤ pl) : am_Ct E yX7_odds cX7_odds 4 (some .long) rmX7_odds [.ref 46, .int a, .int b, .int side] μ (fun v μ' => (¬ ((0 ≤ a ∧ a < nI En) ∧ (0 ≤ b ∧ b < nI En) ∧ (0 ≤ side ∧ side ≤ 1)) ∧ v = some (.long (-9223372036854775808)) ∧ μ' = mm_sI μ 46 0 0) ∨ (((0 ≤ a ∧ a < nI En) ∧ (0 ≤ b ∧ b < nI En) ∧ (0 ≤ side ∧ side ≤ 1)) ∧ ∃ a' b' : Nat, a = nI a' ∧ b = nI b' ∧ a' < En ∧ b' < En ∧ Sm Smo (mm_sI μ 46 0 0) μ' ∧ (∀ k, mm_I μ' 46 k = mm_I (mm_sI μ 46 0 0) 46 k) ∧ v = some (.long (lN ((if side = 0 then (odUN kd (fun r => cs a' (od r)) (fun r => cs b' (od r)) (min (rm a') (rm b'))) else (2 ^ odN (fun r => cs a' (od r)) (fun r => cs b' (od r)) (min (rm a') (rm b')))) / Nat.gcd (odUN kd (fun r => cs a' (od r)) (fun r => cs b' (od r)) (min (rm a') (rm b'))) (2 ^ odN (fun r => cs a' (od r)) (fun r => cs b' (od r)) (min (rm a') (rm b')))))))) := by
  refine am_Ct.of (ls := [some (.ref 46), some (.int a), some (.int b), some (.int side)]) (by decide) (Nat.le_of_ble_eq_true rfl) rfl (fun C fx hnm => ?_)
  have hE := ho.e
  have hR := ho.r
  have hP := ho.p
  refine am_aload_n fx dX7_odds_0 rfl ?_
  refine am_iconst (v := 0) fx dX7_odds_1 (by decide) ?_
  refine am_putI fx dX7_odds_2 fkX7_43 (by decide) (by decide) rfl rfl (so7 hb) ?_
  have hb : Bs (mm_sI μ 46 0 0) := hb.fr (Fr.sI _ _ _ _)
  have hm : Mt (mm_sI μ 46 0 0) S N cs := hm.keep (mI_ne (Or.inr (by decide))) (mI_ne (Or.inr (by decide))) (fun k => mI_ne (Or.inl (by decide)))
  have ho : Mo (mm_sI μ 46 0 0) En Rd pl od ou := ho.keep (mI_ne (Or.inr (by decide))) (mI_ne (Or.inr (by decide))) (mI_ne (Or.inr (by decide))) (fun k => mI_ne (Or.inl (by decide))) (fun k => mI_ne (Or.inl (by decide)))
  have h6 : mm_I (mm_sI μ 46 0 0) 46 6 = kd := (mI_ne (Or.inr (by decide))).trans h6
  obtain ⟨μ0, hM0⟩ : ∃ z, z = mm_sI μ 46 0 0 := ⟨_, rfl⟩
  rw [← hM0] at hb hm ho h6
  refine am_mem hM0.symm ?_
  refine am_aload_n fx dX7_odds_5 rfl ?_
  refine am_getI fx dX7_odds_6 fkX7_20 (by decide) (by decide) rfl (so7 hb) h6 ?_
  refine am_if_lt fx 49 dX7_odds_9 (by decide) (fun c9 => ?_) (fun c9 => ?_)
  · skip
    exact absurd c9 (Int32.not_lt.mpr hk0)
  · skip
    refine am_iload_n fx dX7_odds_12 rfl ?_
    refine am_iconst (v := 0) fx dX7_odds_13 (by decide) ?_
    refine am_aload_n fx dX7_odds_14 rfl ?_
    refine am_getI fx dX7_odds_15 fkX7_69 (by decide) (by decide) rfl (so7 hb) ho.1 ?_
    refine am_iconst (v := 1) fx dX7_odds_18 (by decide) ?_
    refine am_isub fx dX7_odds_19 ?_
    refine am_callS fx dX7_odds_20 mkX7_49 (ct_X7_in _ _ _) rfl (Nat.le_of_ble_eq_true rfl) ⟨by decide, by decide⟩ ⟨Nat.le_of_ble_eq_true rfl, Nat.le_of_ble_eq_true rfl⟩ rfl ?_
    rintro _ _ ⟨rfl, rfl⟩
    rw [bz_congr (show (0 ≤ a ∧ a ≤ nI En - 1) ↔ (0 ≤ a ∧ a < nI En) by rw [le_pred (by omega)])]
    refine am_if_eq fx 49 dX7_odds_23 (by decide) (fun c23 => ?_) (fun c23 => ?_)
    · try simp (disch := omega) only [bz_0, Classical.not_not, Int32.not_le, Int32.not_lt, Nat.not_le, Nat.not_lt, nI_leI, nI_ltI, nI_eq, nI_le0, nI_lt0] at c23
      refine am_ldc2 fx dX7_odds_49 kdX7_140 ?_
      exact am_lret fx dX7_odds_52 (Or.inl ⟨fun h => c23 h.1, rfl, hM0⟩)
    · try simp (disch := omega) only [bz_0, Classical.not_not, Int32.not_le, Int32.not_lt, Nat.not_le, Nat.not_lt, nI_leI, nI_ltI, nI_eq, nI_le0, nI_lt0] at c23
      refine am_iload_n fx dX7_odds_26 rfl ?_
      refine am_iconst (v := 0) fx dX7_odds_27 (by decide) ?_
      refine am_aload_n fx dX7_odds_28 rfl ?_
      refine am_getI fx dX7_odds_29 fkX7_69 (by decide) (by decide) rfl (so7 hb) ho.1 ?_
      refine am_iconst (v := 1) fx dX7_odds_32 (by decide) ?_
      refine am_isub fx dX7_odds_33 ?_
      refine am_callS fx dX7_odds_34 mkX7_49 (ct_X7_in _ _ _) rfl (Nat.le_of_ble_eq_true rfl) ⟨by decide, by decide⟩ ⟨Nat.le_of_ble_eq_true rfl, Nat.le_of_ble_eq_true rfl⟩ rfl ?_
      rintro _ _ ⟨rfl, rfl⟩
      rw [bz_congr (show (0 ≤ b ∧ b ≤ nI En - 1) ↔ (0 ≤ b ∧ b < nI En) by rw [le_pred (by omega)])]
      refine am_if_eq fx 49 dX7_odds_37 (by decide) (fun c37 => ?_) (fun c37 => ?_)
      · try simp (disch := omega) only [bz_0, Classical.not_not, Int32.not_le, Int32.not_lt, Nat.not_le, Nat.not_lt, nI_leI, nI_ltI, nI_eq, nI_le0, nI_lt0] at c37
        refine am_ldc2 fx dX7_odds_49 kdX7_140 ?_
        exact am_lret fx dX7_odds_52 (Or.inl ⟨fun h => c37 h.2.1, rfl, hM0⟩)
      · try simp (disch := omega) only [bz_0, Classical.not_not, Int32.not_le, Int32.not_lt, Nat.not_le, Nat.not_lt, nI_leI, nI_ltI, nI_eq, nI_le0, nI_lt0] at c37
        refine am_iload_n fx dX7_odds_40 rfl ?_
        refine am_iconst (v := 0) fx dX7_odds_41 (by decide) ?_
        refine am_iconst (v := 1) fx dX7_odds_42 (by decide) ?_
        refine am_callS fx dX7_odds_43 mkX7_49 (ct_X7_in _ _ _) rfl (Nat.le_of_ble_eq_true rfl) ⟨by decide, by decide⟩ ⟨Nat.le_of_ble_eq_true rfl, Nat.le_of_ble_eq_true rfl⟩ rfl ?_
        rintro _ _ ⟨rfl, rfl⟩
        refine am_if_ne fx 53 dX7_odds_46 (by decide) (fun c46 => ?_) (fun c46 => ?_)
        · try simp (disch := omega) only [bz_0, Classical.not_not, Int32.not_le, Int32.not_lt, Nat.not_le, Nat.not_lt, nI_leI, nI_ltI, nI_eq, nI_le0, nI_lt0] at c46
          have hab : ((0 ≤ a ∧ a < nI En) ∧ (0 ≤ b ∧ b < nI En) ∧ (0 ≤ side ∧ side ≤ 1)) := ⟨c23, c37, c46⟩
          obtain ⟨a', ha', rfl⟩ := nI_rg2 c23 (by omega)
          obtain ⟨b', hb', rfl⟩ := nI_rg2 c37 (by omega)
          refine am_aload_n fx dX7_odds_53 rfl ?_
          refine am_iload_n fx dX7_odds_54 rfl ?_
          refine am_iload_n fx dX7_odds_55 rfl ?_
          refine am_callV fx dX7_odds_56 mkX7_124 (ct_X7_findOdds hb ho hm h6 hkd a' b' (rm a') (rm b') _ (by omega) (by omega) (hrm a' ha').1 (hrm b' hb').1 (hrm a' ha').2 (hrm b' hb').2 rfl) (so7 hb) ⟨by decide, rfl⟩ rfl (Nat.le_of_ble_eq_true rfl) ⟨by decide, by decide⟩ ⟨Nat.le_of_ble_eq_true rfl, Nat.le_of_ble_eq_true rfl⟩ rfl ?_
          rintro _ ν ⟨rfl, hSm, h46, hU, hD⟩
          have hb2 : Bs ν := hb.fr hSm.1
          refine am_iload_n fx dX7_odds_59 rfl ?_
          refine am_if_ne fx 70 dX7_odds_60 (by decide) (fun c60 => ?_) (fun c60 => ?_)
          · skip
            refine am_aload_n fx dX7_odds_70 rfl ?_
            refine am_getL fx dX7_odds_71 fkX7_132 (by decide) (by decide) rfl (so7 hb2) hD ?_
            exact am_lret fx dX7_odds_74 (Or.inr ⟨hab, a', b', rfl, rfl, ha', hb', hM0 ▸ hSm, hM0 ▸ h46, by rw [if_neg c60]⟩)
          · skip
            refine am_aload_n fx dX7_odds_63 rfl ?_
            refine am_getL fx dX7_odds_64 fkX7_128 (by decide) (by decide) rfl (so7 hb2) hU ?_
            refine am_goto fx 74 dX7_odds_67 (by decide) ?_
            exact am_lret fx dX7_odds_74 (Or.inr ⟨hab, a', b', rfl, rfl, ha', hb', hM0 ▸ hSm, hM0 ▸ h46, by rw [if_pos c60]⟩)
        · try simp (disch := omega) only [bz_0, Classical.not_not, Int32.not_le, Int32.not_lt, Nat.not_le, Nat.not_lt, nI_leI, nI_ltI, nI_eq, nI_le0, nI_lt0] at c46
          refine am_ldc2 fx dX7_odds_49 kdX7_140 ?_
          exact am_lret fx dX7_odds_52 (Or.inl ⟨fun h => c46 h.2.2, rfl, hM0⟩)
set_option maxRecDepth 100000 in
set_option maxHeartbeats 1600000 in
theorem ct_X7_runN0 {E : am_E} {μ : am_M} (hb : Bs μ) (h6 : mm_I μ 46 6 = -1) : am_Ct E yX7_run cX7_run 1 (some .int) rmX7_run [.ref 46] μ (fun v μ' => v = some (.int (-3)) ∧ μ' = mm_sI μ 46 0 0) := by
  refine am_Ct.of (ls := [some (.ref 46)]) (by decide) (Nat.le_of_ble_eq_true rfl) rfl (fun C fx hnm => ?_)
  refine am_aload_n fx dX7_run_0 rfl ?_
  refine am_iconst (v := 0) fx dX7_run_1 (by decide) ?_
  refine am_putI fx dX7_run_2 fkX7_43 (by decide) (by decide) rfl rfl (so7 hb) ?_
  have hb : Bs (mm_sI μ 46 0 0) := hb.fr (Fr.sI _ _ _ _)
  have h6 : mm_I (mm_sI μ 46 0 0) 46 6 = -1 := (mI_ne (Or.inr (by decide))).trans h6
  obtain ⟨μ0, hM0⟩ : ∃ z, z = mm_sI μ 46 0 0 := ⟨_, rfl⟩
  rw [← hM0] at hb h6
  refine am_mem hM0.symm ?_
  refine am_aload_n fx dX7_run_5 rfl ?_
  refine am_callV fx dX7_run_6 mkX7_110 (ct_X7_isOn hb) (so7 hb) ⟨by decide, rfl⟩ rfl (Nat.le_of_ble_eq_true rfl) ⟨by decide, by decide⟩ ⟨Nat.le_of_ble_eq_true rfl, Nat.le_of_ble_eq_true rfl⟩ rfl ?_
  rintro _ _ ⟨rfl, rfl⟩
  rw [show bz (0 ≤ mm_I μ0 46 6 ∧ mm_I μ0 46 17 = 0) = 0 from bz_0.mpr (fun z => by have := z.1; rw [h6] at this; exact absurd this (by decide))]
  refine am_if_eq fx 37 dX7_run_9 (by decide) (fun c9 => ?_) (fun c9 => ?_)
  · skip
    refine am_bipush (v := (-3)) fx dX7_run_37 (by decide) ?_
    exact am_iret fx dX7_run_39 ⟨rfl, hM0⟩
  · skip
    exact absurd rfl c9
set_option maxRecDepth 100000 in
set_option maxHeartbeats 1600000 in
theorem ct_X7_runN {E : am_E} {μ : am_M} (hb : Bs μ) {En Rd pl : Nat} {od : Nat → Nat} {ou : Nat → Int32} (ho : Mo μ En Rd pl od ou) {S N : Nat} {cs : Nat → Nat → Int32} (hm : Mt μ S N cs) {kd : Int32} (h6 : mm_I μ 46 6 = kd) (hk0 : 0 ≤ kd) {ov : Int32} {t : Nat} (h17 : mm_I μ 46 17 = ov) (h18 : mm_I μ 46 18 = nI t) (hon : ov = 0 → Rd < pl ∧ t < 12) (hno : ¬ ov = 0 ∨ cs t (od Rd) = -1) : am_Ct E yX7_run cX7_run 1 (some .int) rmX7_run [.ref 46] μ (fun v μ' => v = some (.int (-3)) ∧ μ' = mm_sI μ 46 0 0) := by
  refine am_Ct.of (ls := [some (.ref 46)]) (by decide) (Nat.le_of_ble_eq_true rfl) rfl (fun C fx hnm => ?_)
  have hE := ho.e
  have hR := ho.r
  have hP := ho.p
  refine am_aload_n fx dX7_run_0 rfl ?_
  refine am_iconst (v := 0) fx dX7_run_1 (by decide) ?_
  refine am_putI fx dX7_run_2 fkX7_43 (by decide) (by decide) rfl rfl (so7 hb) ?_
  have hb : Bs (mm_sI μ 46 0 0) := hb.fr (Fr.sI _ _ _ _)
  have hm : Mt (mm_sI μ 46 0 0) S N cs := hm.keep (mI_ne (Or.inr (by decide))) (mI_ne (Or.inr (by decide))) (fun k => mI_ne (Or.inl (by decide)))
  have ho : Mo (mm_sI μ 46 0 0) En Rd pl od ou := ho.keep (mI_ne (Or.inr (by decide))) (mI_ne (Or.inr (by decide))) (mI_ne (Or.inr (by decide))) (fun k => mI_ne (Or.inl (by decide))) (fun k => mI_ne (Or.inl (by decide)))
  have h6 : mm_I (mm_sI μ 46 0 0) 46 6 = kd := (mI_ne (Or.inr (by decide))).trans h6
  have h17 : mm_I (mm_sI μ 46 0 0) 46 17 = ov := (mI_ne (Or.inr (by decide))).trans h17
  have h18 : mm_I (mm_sI μ 46 0 0) 46 18 = nI t := (mI_ne (Or.inr (by decide))).trans h18
  obtain ⟨μ0, hM0⟩ : ∃ z, z = mm_sI μ 46 0 0 := ⟨_, rfl⟩
  rw [← hM0] at hb hm ho h6 h17 h18
  refine am_mem hM0.symm ?_
  refine am_aload_n fx dX7_run_5 rfl ?_
  refine am_callV fx dX7_run_6 mkX7_110 (ct_X7_isOn hb) (so7 hb) ⟨by decide, rfl⟩ rfl (Nat.le_of_ble_eq_true rfl) ⟨by decide, by decide⟩ ⟨Nat.le_of_ble_eq_true rfl, Nat.le_of_ble_eq_true rfl⟩ rfl ?_
  rintro _ _ ⟨rfl, rfl⟩
  rw [bz_congr (show (0 ≤ mm_I μ0 46 6 ∧ mm_I μ0 46 17 = 0) ↔ ov = 0 by rw [h6, h17]; exact ⟨fun z => z.2, fun z => ⟨hk0, z⟩⟩)]
  refine am_if_eq fx 37 dX7_run_9 (by decide) (fun c9 => ?_) (fun c9 => ?_)
  · try simp (disch := omega) only [bz_0, Classical.not_not, Int32.not_le, Int32.not_lt, Nat.not_le, Nat.not_lt, nI_leI, nI_ltI, nI_eq, nI_le0, nI_lt0] at c9
    refine am_bipush (v := (-3)) fx dX7_run_37 (by decide) ?_
    exact am_iret fx dX7_run_39 ⟨rfl, hM0⟩
  · try simp (disch := omega) only [bz_0, Classical.not_not, Int32.not_le, Int32.not_lt, Nat.not_le, Nat.not_lt, nI_leI, nI_ltI, nI_eq, nI_le0, nI_lt0] at c9
    refine am_aload_n fx dX7_run_12 rfl ?_
    refine am_getR fx dX7_run_13 fkX7_17 (by decide) (by decide) rfl (so7 hb) (rf7_5 hb) ?_
    refine am_bipush (v := (nI 24)) fx dX7_run_16 (by decide) ?_
    refine am_aload_n fx dX7_run_18 rfl ?_
    refine am_getI fx dX7_run_19 fkX7_94 (by decide) (by decide) rfl (so7 hb) h18 ?_
    refine am_imul fx dX7_run_22 ?_
    refine am_aload_n fx dX7_run_23 rfl ?_
    refine am_getR fx dX7_run_24 fkX7_24 (by decide) (by decide) rfl (so7 hb) (rf7_14 hb) ?_
    refine am_aload_n fx dX7_run_27 rfl ?_
    refine am_getI fx dX7_run_28 fkX7_79 (by decide) (by decide) rfl (so7 hb) ho.2.1 ?_
    refine am_iald (j := Rd) fx dX7_run_31 (sa7_14 hb) rfl (by have := hon c9; omega) (by decide) (ho.xo (hon c9).1) ?_
    refine am_iadd fx dX7_run_32 ?_
    refine am_iald (j := (24 * t + od Rd)) fx dX7_run_33 (sa7_5 hb) (ix24 t (od Rd)) (by have := hon c9; have := ho.ol (hon c9).1; omega) (by decide) (hm.2.2.2.2.1 t (od Rd) (hon c9).2 (ho.ol (hon c9).1)) ?_
    refine am_if_ne fx 40 dX7_run_34 (by decide) (fun c34 => ?_) (fun c34 => ?_)
    · skip
      exact absurd ((p1_0 _).mpr (hno.resolve_left (fun z => z c9))) c34
    · skip
      refine am_bipush (v := (-3)) fx dX7_run_37 (by decide) ?_
      exact am_iret fx dX7_run_39 ⟨rfl, hM0⟩
def EndM (μ μ' : am_M) (ou : Nat → Int32) (cs : Nat → Nat → Int32) (od : Nat → Nat) (kd fr bg : Int32) (En Rd pl rn least up dn rem ld : Nat) (T0 : List Nat) : Prop := ∃ dr' : Nat → Int32, ((nI (Rd + 1) < fr ∧ dr' = ou) ∨ (fr ≤ nI (Rd + 1) ∧ dr' = (dropL (fun x => bdN kd up dn (Rd + 1) (fun r => cs ld (od r)) (fun r => cs x (od r))) least (nI (Rd + 1)) T0 (ou, rem)).1)) ∧ Fr μ μ' ∧ (∀ x y, ¬ Sdm x → x ≠ 46 → mm_I μ' x y = mm_I μ x y) ∧ (∀ x y, ¬ Smo x → mm_L μ' x y = mm_L μ x y) ∧ (∀ s, s < 12 → mm_I μ' 51 s = dr' s) ∧ (∀ k, k ≠ 0 → k ≠ 15 → k ≠ 16 → k ≠ 17 → k ≠ 18 → mm_I μ' 46 k = mm_I μ 46 k) ∧ mm_I μ' 46 15 = nI (Rd + 1) ∧ mm_I μ' 46 16 = (nI (rn + 1)) ∧ mm_I μ' 46 17 = ovF (nI (cnt (fun s => decide (dr' s = 0)) En)) (nI least) (nI (Rd + 1)) (nI pl) bg (nI (rn + 1)) ∧ mm_I μ' 46 18 = nI (fsN (fun s => decide (dr' s = 0)) En 0)
set_option maxRecDepth 100000 in
set_option maxHeartbeats 1600000 in
theorem ct_X7_run {E : am_E} {μ : am_M} (hb : Bs μ) {En Rd pl : Nat} {od : Nat → Nat} {ou : Nat → Int32} (ho : Mo μ En Rd pl od ou) {S N : Nat} {cs : Nat → Nat → Int32} (hm : Mt μ S N cs) {kd : Int32} (h6 : mm_I μ 46 6 = kd) (hk0 : 0 ≤ kd) (hkd : kd = 0 ∨ kd = 1) (h17 : mm_I μ 46 17 = 0) {t rn least up dn rem ld : Nat} {fr bg : Int32} (h18 : mm_I μ 46 18 = nI t) (htE : t < En) (hRp : Rd < pl) (hct : ¬ cs t (od Rd) = -1) (h16 : mm_I μ 46 16 = nI rn) (h7 : mm_I μ 46 7 = fr) (h8 : mm_I μ 46 8 = nI up) (h9 : mm_I μ 46 9 = nI dn) (h10 : mm_I μ 46 10 = nI least) (h11 : mm_I μ 46 11 = bg) (hls : least ≤ 12) (hup : up ≤ 1000) (hdn : dn ≤ 1000) (hrem : cnt (fun s => decide (ou s = 0)) En = rem) {T0 : List Nat} (hT : fr ≤ nI (Rd + 1) → T0.Pairwise (fun x y => lexR (fun x => rkN (fun s => decide (ou s = 0)) (fun s r => cs s (od r)) (Rd + 1) x En) y x) ∧ (∀ s, s ∈ T0 ↔ s < En ∧ ou s = 0 ∧ s ≠ ld) ∧ T0.length ≤ 11 ∧ am1 (fun s => decide (ou s = 0)) (fun x => nI (rkN (fun s => decide (ou s = 0)) (fun s r => cs s (od r)) (Rd + 1) x En)) En = some ld) : am_Ct E yX7_run cX7_run 1 (some .int) rmX7_run [.ref 46] μ (fun v μ' => v = some (.int (nI (rn + 1))) ∧ (((fsN (fun s => decide (ou s = 0)) En (t + 1)) < En ∧ μ' = mm_sI (mm_sI (mm_sI μ 46 0 0) 46 16 (nI (rn + 1))) 46 18 (nI (fsN (fun s => decide (ou s = 0)) En (t + 1)))) ∨ ((fsN (fun s => decide (ou s = 0)) En (t + 1)) = En ∧ EndM μ μ' ou cs od kd fr bg En Rd pl rn least up dn rem ld T0))) := by
  refine am_Ct.of (ls := [some (.ref 46)]) (by decide) (Nat.le_of_ble_eq_true rfl) rfl (fun C fx hnm => ?_)
  have hE := ho.e
  have hR := ho.r
  have hP := ho.p
  refine am_aload_n fx dX7_run_0 rfl ?_
  refine am_iconst (v := 0) fx dX7_run_1 (by decide) ?_
  refine am_putI fx dX7_run_2 fkX7_43 (by decide) (by decide) rfl rfl (so7 hb) ?_
  have hb : Bs (mm_sI μ 46 0 0) := hb.fr (Fr.sI _ _ _ _)
  have hm : Mt (mm_sI μ 46 0 0) S N cs := hm.keep (mI_ne (Or.inr (by decide))) (mI_ne (Or.inr (by decide))) (fun k => mI_ne (Or.inl (by decide)))
  have ho : Mo (mm_sI μ 46 0 0) En Rd pl od ou := ho.keep (mI_ne (Or.inr (by decide))) (mI_ne (Or.inr (by decide))) (mI_ne (Or.inr (by decide))) (fun k => mI_ne (Or.inl (by decide))) (fun k => mI_ne (Or.inl (by decide)))
  have h6 : mm_I (mm_sI μ 46 0 0) 46 6 = kd := (mI_ne (Or.inr (by decide))).trans h6
  have h17 : mm_I (mm_sI μ 46 0 0) 46 17 = 0 := (mI_ne (Or.inr (by decide))).trans h17
  have h18 : mm_I (mm_sI μ 46 0 0) 46 18 = nI t := (mI_ne (Or.inr (by decide))).trans h18
  have h16 : mm_I (mm_sI μ 46 0 0) 46 16 = nI rn := (mI_ne (Or.inr (by decide))).trans h16
  have h7 : mm_I (mm_sI μ 46 0 0) 46 7 = fr := (mI_ne (Or.inr (by decide))).trans h7
  have h8 : mm_I (mm_sI μ 46 0 0) 46 8 = nI up := (mI_ne (Or.inr (by decide))).trans h8
  have h9 : mm_I (mm_sI μ 46 0 0) 46 9 = nI dn := (mI_ne (Or.inr (by decide))).trans h9
  have h10 : mm_I (mm_sI μ 46 0 0) 46 10 = nI least := (mI_ne (Or.inr (by decide))).trans h10
  have h11 : mm_I (mm_sI μ 46 0 0) 46 11 = bg := (mI_ne (Or.inr (by decide))).trans h11
  obtain ⟨μ0, hM0⟩ : ∃ z, z = mm_sI μ 46 0 0 := ⟨_, rfl⟩
  rw [← hM0] at hb hm ho h6 h17 h18 h16 h7 h8 h9 h10 h11
  refine am_mem hM0.symm ?_
  have ct132 : ∀ (ν : am_M) (dr' : Nat → Int32), ((fsN (fun s => decide (ou s = 0)) En (t + 1)) = En ∧ ((nI (Rd + 1) < fr ∧ dr' = ou) ∨ (fr ≤ nI (Rd + 1) ∧ dr' = (dropL (fun x => bdN kd up dn (Rd + 1) (fun r => cs ld (od r)) (fun r => cs x (od r))) least (nI (Rd + 1)) T0 (ou, rem)).1)) ∧ Fr μ0 ν ∧ (∀ x y, ¬ Sdm x → x ≠ 46 → mm_I ν x y = mm_I μ0 x y) ∧ (∀ x y, ¬ Smo x → mm_L ν x y = mm_L μ0 x y) ∧ (∀ s, s < 12 → mm_I ν 51 s = dr' s) ∧ (∀ k, k ≠ 15 → k ≠ 16 → k ≠ 18 → mm_I ν 46 k = mm_I μ0 46 k) ∧ mm_I ν 46 15 = nI (Rd + 1) ∧ mm_I ν 46 16 = (nI (rn + 1))) → am_W E C (am_MQ E C (fun v μ' => v = some (.int (nI (rn + 1))) ∧ (((fsN (fun s => decide (ou s = 0)) En (t + 1)) < En ∧ μ' = mm_sI (mm_sI (mm_sI μ 46 0 0) 46 16 (nI (rn + 1))) 46 18 (nI (fsN (fun s => decide (ou s = 0)) En (t + 1)))) ∨ ((fsN (fun s => decide (ou s = 0)) En (t + 1)) = En ∧ EndM μ μ' ou cs od kd fr bg En Rd pl rn least up dn rem ld T0))) (rmX7_run).cells (rmX7_run).slots) ν 0 0 132 [some (.ref 46)] [] := by
    intro ν dr' hI
    refine am_aload_n fx dX7_run_132 rfl ?_
    obtain ⟨hTE, hDr, hfr, hdI, hdL, h51, h46, h15, h16b⟩ := hI
    have hbn : Bs ν := hb.fr hfr
    have hon : Mo ν En (Rd + 1) pl od dr' := ⟨(h46 12 (by decide) (by decide) (by decide)).trans ho.1, h15, (h46 13 (by decide) (by decide) (by decide)).trans ho.2.2.1, hE, by omega, hP, fun i hi => ⟨(hdI 50 i (by unfold Sdm; omega) (by decide)).trans (ho.xo hi), ho.ol hi⟩, h51⟩
    refine am_callV fx dX7_run_133 mkX7_107 (ct_X7_look hbn hon ((h46 10 (by decide) (by decide) (by decide)).trans h10) ((h46 11 (by decide) (by decide) (by decide)).trans h11) h16b) (so7 hbn) ⟨by decide, rfl⟩ rfl (Nat.le_of_ble_eq_true rfl) ⟨by decide, by decide⟩ ⟨Nat.le_of_ble_eq_true rfl, Nat.le_of_ble_eq_true rfl⟩ rfl ?_
    rintro _ _ ⟨rfl, rfl⟩
    refine am_aload_n fx dX7_run_136 rfl ?_
    refine am_getI fx dX7_run_137 fkX7_88 (by decide) (by decide) rfl (so7 hbn) ((mI_ne (Or.inr (by decide))).trans ((mI_ne (Or.inr (by decide))).trans h16b)) ?_
    exact am_iret fx dX7_run_140 (by
      have e0 : ∀ x y, (x ≠ 46 ∨ y ≠ 0) → mm_I μ0 x y = mm_I μ x y := fun x y h => by
        rw [hM0]
        exact mI_ne h
      have f0 : Fr μ μ0 := by
        rw [hM0]
        exact Fr.sI _ _ _ _
      have l0 : ∀ x y, mm_L μ0 x y = mm_L μ x y := fun x y => by rw [hM0]; rfl
      exact ⟨rfl, Or.inr ⟨hTE, dr', hDr, f0.tr (hfr.tr ⟨rfl, rfl, rfl⟩), fun x y hx h4 => by rw [mI_ne (Or.inl h4), mI_ne (Or.inl h4), hdI x y hx h4, e0 x y (Or.inl h4)], fun x y hx => (hdL x y hx).trans (l0 x y), fun s hs => by rw [mI_ne (Or.inl (by decide)), mI_ne (Or.inl (by decide))]; exact h51 s hs, fun k a b c d e => by rw [mI_ne (Or.inr e), mI_ne (Or.inr d), h46 k b c e, e0 46 k (Or.inr a)], by rw [mI_ne (Or.inr (by decide)), mI_ne (Or.inr (by decide))]; exact h15, by rw [mI_ne (Or.inr (by decide)), mI_ne (Or.inr (by decide))]; exact h16b, by rw [mI_ne (Or.inr (by decide)), mI_same], mI_same _ _ _ _⟩⟩)
  refine am_aload_n fx dX7_run_5 rfl ?_
  refine am_callV fx dX7_run_6 mkX7_110 (ct_X7_isOn hb) (so7 hb) ⟨by decide, rfl⟩ rfl (Nat.le_of_ble_eq_true rfl) ⟨by decide, by decide⟩ ⟨Nat.le_of_ble_eq_true rfl, Nat.le_of_ble_eq_true rfl⟩ rfl ?_
  rintro _ _ ⟨rfl, rfl⟩
  rw [show bz (0 ≤ mm_I μ0 46 6 ∧ mm_I μ0 46 17 = 0) = 1 from bz_1.mpr ⟨by rw [h6]; exact hk0, h17⟩]
  refine am_if_eq fx 37 dX7_run_9 (by decide) (fun c9 => ?_) (fun c9 => ?_)
  · skip
    exact absurd c9 (by decide)
  · skip
    refine am_aload_n fx dX7_run_12 rfl ?_
    refine am_getR fx dX7_run_13 fkX7_17 (by decide) (by decide) rfl (so7 hb) (rf7_5 hb) ?_
    refine am_bipush (v := (nI 24)) fx dX7_run_16 (by decide) ?_
    refine am_aload_n fx dX7_run_18 rfl ?_
    refine am_getI fx dX7_run_19 fkX7_94 (by decide) (by decide) rfl (so7 hb) h18 ?_
    refine am_imul fx dX7_run_22 ?_
    refine am_aload_n fx dX7_run_23 rfl ?_
    refine am_getR fx dX7_run_24 fkX7_24 (by decide) (by decide) rfl (so7 hb) (rf7_14 hb) ?_
    refine am_aload_n fx dX7_run_27 rfl ?_
    refine am_getI fx dX7_run_28 fkX7_79 (by decide) (by decide) rfl (so7 hb) ho.2.1 ?_
    refine am_iald (j := Rd) fx dX7_run_31 (sa7_14 hb) rfl (by omega) (by decide) (ho.xo hRp) ?_
    refine am_iadd fx dX7_run_32 ?_
    refine am_iald (j := (24 * t + od Rd)) fx dX7_run_33 (sa7_5 hb) (ix24 t (od Rd)) (by have := ho.ol hRp; omega) (by decide) (hm.2.2.2.2.1 t (od Rd) (by omega) (ho.ol hRp)) ?_
    refine am_if_ne fx 40 dX7_run_34 (by decide) (fun c34 => ?_) (fun c34 => ?_)
    · skip
      refine am_aload_n fx dX7_run_40 rfl ?_
      refine am_dup_ref fx dX7_run_41 ?_
      refine am_getI fx dX7_run_42 fkX7_88 (by decide) (by decide) rfl (so7 hb) h16 ?_
      refine am_iconst (v := 1) fx dX7_run_45 (by decide) ?_
      refine am_iadd fx dX7_run_46 ?_
      refine am_topi (nI_1 rn) ?_
      refine am_putI fx dX7_run_47 fkX7_88 (by decide) (by decide) rfl rfl (so7 hb) ?_
      refine am_aload_n fx dX7_run_50 rfl ?_
      refine am_dup_ref fx dX7_run_51 ?_
      refine am_getI fx dX7_run_52 fkX7_94 (by decide) (by decide) rfl (so7 hb) ((mI_ne (Or.inr (by decide))).trans h18) ?_
      refine am_iconst (v := 1) fx dX7_run_55 (by decide) ?_
      refine am_iadd fx dX7_run_56 ?_
      refine am_topi (nI_1 t) ?_
      refine am_putI fx dX7_run_57 fkX7_94 (by decide) (by decide) rfl rfl (so7 hb) ?_
      have lp60 : ∀ (mz : Nat) (r : Nat), En - r = mz → r ≤ En → fsN (fun s => decide (ou s = 0)) En r = (fsN (fun s => decide (ou s = 0)) En (t + 1)) → am_W E C (am_MQ E C (fun v μ' => v = some (.int (nI (rn + 1))) ∧ (((fsN (fun s => decide (ou s = 0)) En (t + 1)) < En ∧ μ' = mm_sI (mm_sI (mm_sI μ 46 0 0) 46 16 (nI (rn + 1))) 46 18 (nI (fsN (fun s => decide (ou s = 0)) En (t + 1)))) ∨ ((fsN (fun s => decide (ou s = 0)) En (t + 1)) = En ∧ EndM μ μ' ou cs od kd fr bg En Rd pl rn least up dn rem ld T0))) (rmX7_run).cells (rmX7_run).slots) (mm_sI (mm_sI μ0 46 16 (nI (rn + 1))) 46 18 (nI r)) 0 0 60 [some (.ref 46)] [] := by
        intro mz
        induction mz using Nat.strongRecOn with
        | ind mz ih =>
          intro r hz hr hfs
          have hb2 : Bs (mm_sI (mm_sI μ0 46 16 (nI (rn + 1))) 46 18 (nI r)) := hb.fr ⟨rfl, rfl, rfl⟩
          have e18 : mm_I (mm_sI (mm_sI μ0 46 16 (nI (rn + 1))) 46 18 (nI r)) 46 18 = nI r := mI_same _ _ _ _
          have e12 : mm_I (mm_sI (mm_sI μ0 46 16 (nI (rn + 1))) 46 18 (nI r)) 46 12 = nI En := (mI_ne (Or.inr (by decide))).trans ((mI_ne (Or.inr (by decide))).trans ho.1)
          have e51 : r < 12 → mm_I (mm_sI (mm_sI μ0 46 16 (nI (rn + 1))) 46 18 (nI r)) 51 r = ou r := fun hr9 => (mI_ne (Or.inl (by decide))).trans ((mI_ne (Or.inl (by decide))).trans (ho.xu hr9))
          refine am_aload_n fx dX7_run_60 rfl ?_
          refine am_getI fx dX7_run_61 fkX7_94 (by decide) (by decide) rfl (so7 hb2) e18 ?_
          refine am_aload_n fx dX7_run_64 rfl ?_
          refine am_getI fx dX7_run_65 fkX7_69 (by decide) (by decide) rfl (so7 hb2) e12 ?_
          refine am_icmp_ge fx 96 dX7_run_68 (by decide) (fun c68 => ?_) (fun c68 => ?_)
          · try simp (disch := omega) only [bz_0, Classical.not_not, Int32.not_le, Int32.not_lt, Nat.not_le, Nat.not_lt, nI_leI, nI_ltI, nI_eq, nI_le0, nI_lt0] at c68
            refine am_aload_n fx dX7_run_96 rfl ?_
            refine am_getI fx dX7_run_97 fkX7_94 (by decide) (by decide) rfl (so7 hb2) e18 ?_
            refine am_aload_n fx dX7_run_100 rfl ?_
            refine am_getI fx dX7_run_101 fkX7_69 (by decide) (by decide) rfl (so7 hb2) e12 ?_
            refine am_icmp_ne fx 136 dX7_run_104 (by decide) (fun c104 => ?_) (fun c104 => ?_)
            · try simp (disch := omega) only [bz_0, Classical.not_not, Int32.not_le, Int32.not_lt, Nat.not_le, Nat.not_lt, nI_leI, nI_ltI, nI_eq, nI_le0, nI_lt0] at c104
              exact absurd (show r = En by omega) c104
            · try simp (disch := omega) only [bz_0, Classical.not_not, Int32.not_le, Int32.not_lt, Nat.not_le, Nat.not_lt, nI_leI, nI_ltI, nI_eq, nI_le0, nI_lt0] at c104
              have hrE : r = En := by omega
              rw [hrE] at hb2 e12 hfs ⊢
              have hTE : (fsN (fun s => decide (ou s = 0)) En (t + 1)) = En := by rw [← hfs, fsN_end (Nat.le_refl _)]
              refine am_aload_n fx dX7_run_107 rfl ?_
              refine am_dup_ref fx dX7_run_108 ?_
              refine am_getI fx dX7_run_109 fkX7_79 (by decide) (by decide) rfl (so7 hb2) ((mI_ne (Or.inr (by decide))).trans ((mI_ne (Or.inr (by decide))).trans ho.2.1)) ?_
              refine am_iconst (v := 1) fx dX7_run_112 (by decide) ?_
              refine am_iadd fx dX7_run_113 ?_
              refine am_topi (nI_1 Rd) ?_
              refine am_putI fx dX7_run_114 fkX7_79 (by decide) (by decide) rfl rfl (so7 hb2) ?_
              have hb3 : Bs (mm_sI (mm_sI (mm_sI μ0 46 16 (nI (rn + 1))) 46 18 (nI En)) 46 15 (nI (Rd + 1))) := hb.fr ⟨rfl, rfl, rfl⟩
              have ho3 : Mo (mm_sI (mm_sI (mm_sI μ0 46 16 (nI (rn + 1))) 46 18 (nI En)) 46 15 (nI (Rd + 1))) En (Rd + 1) pl od ou := ⟨(mI_ne (Or.inr (by decide))).trans ((mI_ne (Or.inr (by decide))).trans ((mI_ne (Or.inr (by decide))).trans ho.1)), mI_same _ _ _ _, (mI_ne (Or.inr (by decide))).trans ((mI_ne (Or.inr (by decide))).trans ((mI_ne (Or.inr (by decide))).trans ho.2.2.1)), hE, by omega, hP, fun i hi => ⟨(mI_ne (Or.inl (by decide))).trans ((mI_ne (Or.inl (by decide))).trans ((mI_ne (Or.inl (by decide))).trans (ho.xo hi))), ho.ol hi⟩, fun s hs => (mI_ne (Or.inl (by decide))).trans ((mI_ne (Or.inl (by decide))).trans ((mI_ne (Or.inl (by decide))).trans (ho.xu hs)))⟩
              have hm3 : Mt (mm_sI (mm_sI (mm_sI μ0 46 16 (nI (rn + 1))) 46 18 (nI En)) 46 15 (nI (Rd + 1))) S N cs := hm.keep ((mI_ne (Or.inr (by decide))).trans ((mI_ne (Or.inr (by decide))).trans ((mI_ne (Or.inr (by decide))).trans rfl))) ((mI_ne (Or.inr (by decide))).trans ((mI_ne (Or.inr (by decide))).trans ((mI_ne (Or.inr (by decide))).trans rfl))) (fun k => (mI_ne (Or.inl (by decide))).trans ((mI_ne (Or.inl (by decide))).trans ((mI_ne (Or.inl (by decide))).trans rfl)))
              refine am_aload_n fx dX7_run_117 rfl ?_
              refine am_getI fx dX7_run_118 fkX7_79 (by decide) (by decide) rfl (so7 hb3) ho3.2.1 ?_
              refine am_aload_n fx dX7_run_121 rfl ?_
              refine am_getI fx dX7_run_122 fkX7_97 (by decide) (by decide) rfl (so7 hb3) ((mI_ne (Or.inr (by decide))).trans ((mI_ne (Or.inr (by decide))).trans ((mI_ne (Or.inr (by decide))).trans h7))) ?_
              refine am_icmp_lt fx 132 dX7_run_125 (by decide) (fun c125 => ?_) (fun c125 => ?_)
              · skip
                exact ct132 (mm_sI (mm_sI (mm_sI μ0 46 16 (nI (rn + 1))) 46 18 (nI En)) 46 15 (nI (Rd + 1))) ou ⟨hTE, Or.inl ⟨c125, rfl⟩, ⟨rfl, rfl, rfl⟩, fun x y _ hx => by rw [mI_ne (Or.inl hx), mI_ne (Or.inl hx), mI_ne (Or.inl hx)], fun x y _ => rfl, fun s hs => (mI_ne (Or.inl (by decide))).trans ((mI_ne (Or.inl (by decide))).trans ((mI_ne (Or.inl (by decide))).trans (ho.xu hs))), fun k a b c => by rw [mI_ne (Or.inr a), mI_ne (Or.inr c), mI_ne (Or.inr b)], mI_same _ _ _ _, by rw [mI_ne (Or.inr (by decide)), mI_ne (Or.inr (by decide)), mI_same]⟩
              · skip
                have c125 := Int32.not_lt.mp c125
                obtain ⟨hT1, hT2, hT3, hT4⟩ := hT c125
                refine am_aload_n fx dX7_run_128 rfl ?_
                refine am_callV fx dX7_run_129 mkX7_114 (ct_X7_drop hb3 ho3 hm3 ((mI_ne (Or.inr (by decide))).trans ((mI_ne (Or.inr (by decide))).trans ((mI_ne (Or.inr (by decide))).trans h6))) hkd ((mI_ne (Or.inr (by decide))).trans ((mI_ne (Or.inr (by decide))).trans ((mI_ne (Or.inr (by decide))).trans h10))) ((mI_ne (Or.inr (by decide))).trans ((mI_ne (Or.inr (by decide))).trans ((mI_ne (Or.inr (by decide))).trans h8))) ((mI_ne (Or.inr (by decide))).trans ((mI_ne (Or.inr (by decide))).trans ((mI_ne (Or.inr (by decide))).trans h9))) hls hup hdn hrem hT1 hT2 hT3 hT4) (so7 hb3) ⟨by decide, rfl⟩ rfl (Nat.le_of_ble_eq_true rfl) ⟨by decide, by decide⟩ ⟨Nat.le_of_ble_eq_true rfl, Nat.le_of_ble_eq_true rfl⟩ rfl ?_
                rintro _ ν ⟨rfl, hfrd, hdI, hdL, h51⟩
                exact ct132 ν _ ⟨hTE, Or.inr ⟨c125, rfl⟩, (show Fr μ0 (mm_sI (mm_sI (mm_sI μ0 46 16 (nI (rn + 1))) 46 18 (nI En)) 46 15 (nI (Rd + 1))) from ⟨rfl, rfl, rfl⟩).tr hfrd, fun x y hx h46 => by rw [hdI x y hx, mI_ne (Or.inl h46), mI_ne (Or.inl h46), mI_ne (Or.inl h46)], fun x y hx => (hdL x y hx).trans rfl, h51, fun k a b c => by rw [hdI 46 k (by unfold Sdm; omega), mI_ne (Or.inr a), mI_ne (Or.inr c), mI_ne (Or.inr b)], by rw [hdI 46 15 (by unfold Sdm; omega), mI_same], by rw [hdI 46 16 (by unfold Sdm; omega), mI_ne (Or.inr (by decide)), mI_ne (Or.inr (by decide)), mI_same]⟩
          · try simp (disch := omega) only [bz_0, Classical.not_not, Int32.not_le, Int32.not_lt, Nat.not_le, Nat.not_lt, nI_leI, nI_ltI, nI_eq, nI_le0, nI_lt0] at c68
            refine am_aload_n fx dX7_run_71 rfl ?_
            refine am_getR fx dX7_run_72 fkX7_27 (by decide) (by decide) rfl (so7 hb2) (rf7_19 hb2) ?_
            refine am_aload_n fx dX7_run_75 rfl ?_
            refine am_getI fx dX7_run_76 fkX7_94 (by decide) (by decide) rfl (so7 hb2) e18 ?_
            refine am_iald (j := r) fx dX7_run_79 (sa7_19 hb2) rfl (by omega) (by decide) (e51 (by omega)) ?_
            refine am_if_eq fx 96 dX7_run_80 (by decide) (fun c80 => ?_) (fun c80 => ?_)
            · skip
              refine am_aload_n fx dX7_run_96 rfl ?_
              refine am_getI fx dX7_run_97 fkX7_94 (by decide) (by decide) rfl (so7 hb2) e18 ?_
              refine am_aload_n fx dX7_run_100 rfl ?_
              refine am_getI fx dX7_run_101 fkX7_69 (by decide) (by decide) rfl (so7 hb2) e12 ?_
              refine am_icmp_ne fx 136 dX7_run_104 (by decide) (fun c104 => ?_) (fun c104 => ?_)
              · try simp (disch := omega) only [bz_0, Classical.not_not, Int32.not_le, Int32.not_lt, Nat.not_le, Nat.not_lt, nI_leI, nI_ltI, nI_eq, nI_le0, nI_lt0] at c104
                refine am_aload_n fx dX7_run_136 rfl ?_
                refine am_getI fx dX7_run_137 fkX7_88 (by decide) (by decide) rfl (so7 hb2) ((mI_ne (Or.inr (by decide))).trans (mI_same _ _ _ _)) ?_
                exact am_iret fx dX7_run_140 ⟨rfl, Or.inl ⟨by rw [← hfs, fsN_here (by omega) (by simp [c80])]; omega, by rw [← hfs, fsN_here (by omega) (by simp [c80]), hM0]⟩⟩
              · try simp (disch := omega) only [bz_0, Classical.not_not, Int32.not_le, Int32.not_lt, Nat.not_le, Nat.not_lt, nI_leI, nI_ltI, nI_eq, nI_le0, nI_lt0] at c104
                exact absurd c104 (by omega)
            · skip
              refine am_aload_n fx dX7_run_83 rfl ?_
              refine am_dup_ref fx dX7_run_84 ?_
              refine am_getI fx dX7_run_85 fkX7_94 (by decide) (by decide) rfl (so7 hb2) e18 ?_
              refine am_iconst (v := 1) fx dX7_run_88 (by decide) ?_
              refine am_iadd fx dX7_run_89 ?_
              refine am_topi (nI_1 r) ?_
              refine am_putI fx dX7_run_90 fkX7_94 (by decide) (by decide) rfl rfl (so7 hb2) ?_
              refine am_goto fx 60 dX7_run_93 (by decide) ?_
              exact am_mem (sI_sI _ _ _ _ _) (ih (En - (r + 1)) (by omega) (r + 1) rfl (by omega) ((fsN_step (by simp [c80])).symm.trans hfs))
      exact lp60 _ (t + 1) rfl (by omega) rfl
    · skip
      exact absurd ((p1_0 _).mp c34) hct
