set_option maxRecDepth 100000 in
set_option maxHeartbeats 4000000 in
theorem ct_X6_setting {E : am_E} {μ : am_M} (hb : Bs μ) {S N : Nat} (ht : Tb μ S N) : am_Ct E yX6_setting cX6_setting 1 (some .int) rmX6_setting [.ref 1] μ (fun v μ' => (S = 12 ∧ v = some (.int (-4)) ∧ μ' = μ) ∨ (S < 12 ∧ v = some (.int (nI S)) ∧ μ' = mm_sI μ 2 4 (nI (S + 1)))) := by
  refine am_Ct.of (ls := [some (.ref 1)]) (by decide) (Nat.le_of_ble_eq_true rfl) rfl (fun C fx hnm => ?_)
  refine am_aload_n fx dX6_setting_0 rfl ?_
  refine am_getR fx dX6_setting_1 fkX6_12 (by decide) (by decide) rfl (so6 hb) (rf6_0 hb) ?_
  refine am_callV fx dX6_setting_4 mkX6_43 (ct_X5_addSetting hb ht) (so5 hb) ⟨by decide, rfl⟩ rfl (Nat.le_of_ble_eq_true rfl) ⟨by decide, by decide⟩ ⟨Nat.le_of_ble_eq_true rfl, Nat.le_of_ble_eq_true rfl⟩ rfl ?_
  rintro v ν hh
  obtain ⟨x, rfl⟩ : ∃ x, v = some (.int x) := by
    rcases hh with ⟨_, h, _⟩ | ⟨_, h, _⟩ <;> exact ⟨_, h⟩
  exact am_iret fx dX6_setting_7 hh
set_option maxRecDepth 100000 in
set_option maxHeartbeats 4000000 in
theorem ct_X6_instance {E : am_E} {μ : am_M} (hb : Bs μ) {S N : Nat} (ht : Tb μ S N) (f g l : Int32) : am_Ct E yX6_instance cX6_instance 4 (some .int) rmX6_instance [.ref 1, .int f, .int g, .int l] μ (fun v μ' => (¬ ((0 ≤ f ∧ f ≤ nI 100) ∧ (0 ≤ g ∧ g ≤ nI 100)) ∧ v = some (.int (-2)) ∧ μ' = μ) ∨ (((0 ≤ f ∧ f ≤ nI 100) ∧ (0 ≤ g ∧ g ≤ nI 100)) ∧ ((N = 24 ∧ v = some (.int (-4)) ∧ μ' = μ) ∨ (N < 24 ∧ v = some (.int (nI N)) ∧ μ' = mm_sI (mm_sI (mm_sI (mm_sI μ 18 N f) 19 N g) 20 N (bz (l = 0))) 2 5 (nI (N + 1)))))) := by
  refine am_Ct.of (ls := [some (.ref 1), some (.int f), some (.int g), some (.int l)]) (by decide) (Nat.le_of_ble_eq_true rfl) rfl (fun C fx hnm => ?_)
  refine am_iload_n fx dX6_instance_0 rfl ?_
  refine am_iconst (v := 0) fx dX6_instance_1 (by decide) ?_
  refine am_bipush (v := (nI 100)) fx dX6_instance_2 (by decide) ?_
  refine am_callS fx dX6_instance_4 mkX6_47 (ct_X6_isWithin hb _ _ _) rfl (Nat.le_of_ble_eq_true rfl) ⟨by decide, by decide⟩ ⟨Nat.le_of_ble_eq_true rfl, Nat.le_of_ble_eq_true rfl⟩ rfl ?_
  rintro _ _ ⟨rfl, rfl⟩
  refine am_if_eq fx 20 dX6_instance_7 (by decide) (fun c7 => ?_) (fun c7 => ?_)
  · try simp (disch := omega) only [bz_0, Classical.not_not, Int32.not_le, Int32.not_lt, Nat.not_le, Nat.not_lt, nI_leI, nI_ltI, nI_eq, nI_le0, nI_lt0] at c7
    refine am_bipush (v := (-2)) fx dX6_instance_20 (by decide) ?_
    exact am_iret fx dX6_instance_22 (Or.inl ⟨fun h => c7 h.1, rfl, rfl⟩)
  · try simp (disch := omega) only [bz_0, Classical.not_not, Int32.not_le, Int32.not_lt, Nat.not_le, Nat.not_lt, nI_leI, nI_ltI, nI_eq, nI_le0, nI_lt0] at c7
    refine am_iload_n fx dX6_instance_10 rfl ?_
    refine am_iconst (v := 0) fx dX6_instance_11 (by decide) ?_
    refine am_bipush (v := (nI 100)) fx dX6_instance_12 (by decide) ?_
    refine am_callS fx dX6_instance_14 mkX6_47 (ct_X6_isWithin hb _ _ _) rfl (Nat.le_of_ble_eq_true rfl) ⟨by decide, by decide⟩ ⟨Nat.le_of_ble_eq_true rfl, Nat.le_of_ble_eq_true rfl⟩ rfl ?_
    rintro _ _ ⟨rfl, rfl⟩
    refine am_if_ne fx 23 dX6_instance_17 (by decide) (fun c17 => ?_) (fun c17 => ?_)
    · try simp (disch := omega) only [bz_0, Classical.not_not, Int32.not_le, Int32.not_lt, Nat.not_le, Nat.not_lt, nI_leI, nI_ltI, nI_eq, nI_le0, nI_lt0] at c17
      refine am_aload_n fx dX6_instance_23 rfl ?_
      refine am_getR fx dX6_instance_24 fkX6_12 (by decide) (by decide) rfl (so6 hb) (rf6_0 hb) ?_
      refine am_iload_n fx dX6_instance_27 rfl ?_
      refine am_iload_n fx dX6_instance_28 rfl ?_
      refine am_iload_n fx dX6_instance_29 rfl ?_
      refine am_if_ne fx 37 dX6_instance_30 (by decide) (fun c30 => ?_) (fun c30 => ?_)
      · skip
        refine am_iconst (v := 0) fx dX6_instance_37 (by decide) ?_
        refine am_topi (bz_f (P := l = 0) c30) ?_
        refine am_callV fx dX6_instance_38 mkX6_51 (ct_X5_addInstance hb ht _ _ _ bz_01) (so5 hb) ⟨by decide, rfl⟩ rfl (Nat.le_of_ble_eq_true rfl) ⟨by decide, by decide⟩ ⟨Nat.le_of_ble_eq_true rfl, Nat.le_of_ble_eq_true rfl⟩ rfl ?_
        rintro v ν hh
        obtain ⟨x, rfl⟩ : ∃ x, v = some (.int x) := by
          rcases hh with ⟨_, h, _⟩ | ⟨_, h, _⟩ <;> exact ⟨_, h⟩
        exact am_iret fx dX6_instance_41 (Or.inr ⟨⟨c7, c17⟩, hh⟩)
      · skip
        refine am_iconst (v := 1) fx dX6_instance_33 (by decide) ?_
        refine am_topi (bz_t (P := l = 0) c30) ?_
        refine am_goto fx 38 dX6_instance_34 (by decide) ?_
        refine am_callV fx dX6_instance_38 mkX6_51 (ct_X5_addInstance hb ht _ _ _ bz_01) (so5 hb) ⟨by decide, rfl⟩ rfl (Nat.le_of_ble_eq_true rfl) ⟨by decide, by decide⟩ ⟨Nat.le_of_ble_eq_true rfl, Nat.le_of_ble_eq_true rfl⟩ rfl ?_
        rintro v ν hh
        obtain ⟨x, rfl⟩ : ∃ x, v = some (.int x) := by
          rcases hh with ⟨_, h, _⟩ | ⟨_, h, _⟩ <;> exact ⟨_, h⟩
        exact am_iret fx dX6_instance_41 (Or.inr ⟨⟨c7, c17⟩, hh⟩)
    · try simp (disch := omega) only [bz_0, Classical.not_not, Int32.not_le, Int32.not_lt, Nat.not_le, Nat.not_lt, nI_leI, nI_ltI, nI_eq, nI_le0, nI_lt0] at c17
      refine am_bipush (v := (-2)) fx dX6_instance_20 (by decide) ?_
      exact am_iret fx dX6_instance_22 (Or.inl ⟨fun h => c17 h.2, rfl, rfl⟩)
set_option maxRecDepth 100000 in
set_option maxHeartbeats 4000000 in
theorem ct_X6_cost {E : am_E} {μ : am_M} (hb : Bs μ) {S N : Nat} (ht : Tb μ S N) (s i x : Int32) : am_Ct E yX6_cost cX6_cost 4 (some .int) rmX6_cost [.ref 1, .int s, .int i, .int x] μ (fun v μ' => (¬ ((0 ≤ s ∧ s < nI S) ∧ (0 ≤ i ∧ i < nI N)) ∧ v = some (.int (-1)) ∧ μ' = μ) ∨ (((0 ≤ s ∧ s < nI S) ∧ (0 ≤ i ∧ i < nI N)) ∧ ¬ (x = -1 ∨ (0 ≤ x ∧ x ≤ 1000000)) ∧ v = some (.int (-2)) ∧ μ' = μ) ∨ (((0 ≤ s ∧ s < nI S) ∧ (0 ≤ i ∧ i < nI N)) ∧ (x = -1 ∨ (0 ≤ x ∧ x ≤ 1000000)) ∧ ¬ co μ S N s i = -1 ∧ v = some (.int (-3)) ∧ μ' = μ) ∨ ((x = -1 ∨ (0 ≤ x ∧ x ≤ 1000000)) ∧ co μ S N s i = -1 ∧ ∃ s' i' : Nat, s = nI s' ∧ i = nI i' ∧ s' < S ∧ i' < N ∧ v = some (.int (mm_I μ 16 s' + 1)) ∧ μ' = mm_sI (mm_sI μ (4 + s') i' (if x = -1 then 2000000 else x)) 16 s' (mm_I μ 16 s' + 1))) := by
  refine am_Ct.of (ls := [some (.ref 1), some (.int s), some (.int i), some (.int x)]) (by decide) (Nat.le_of_ble_eq_true rfl) rfl (fun C fx hnm => ?_)
  have hS := ht.s
  have hN := ht.n
  refine am_aload_n fx dX6_cost_0 rfl ?_
  refine am_getR fx dX6_cost_1 fkX6_12 (by decide) (by decide) rfl (so6 hb) (rf6_0 hb) ?_
  refine am_iload_n fx dX6_cost_4 rfl ?_
  refine am_callV fx dX6_cost_5 mkX6_55 (ct_X5_hasSetting hb ht _) (so5 hb) ⟨by decide, rfl⟩ rfl (Nat.le_of_ble_eq_true rfl) ⟨by decide, by decide⟩ ⟨Nat.le_of_ble_eq_true rfl, Nat.le_of_ble_eq_true rfl⟩ rfl ?_
  rintro _ _ ⟨rfl, rfl⟩
  refine am_if_eq fx 22 dX6_cost_8 (by decide) (fun c8 => ?_) (fun c8 => ?_)
  · try simp (disch := omega) only [bz_0, Classical.not_not, Int32.not_le, Int32.not_lt, Nat.not_le, Nat.not_lt, nI_leI, nI_ltI, nI_eq, nI_le0, nI_lt0] at c8
    refine am_iconst (v := (-1)) fx dX6_cost_22 (by decide) ?_
    exact am_iret fx dX6_cost_23 (Or.inl ⟨fun h => c8 h.1, rfl, rfl⟩)
  · try simp (disch := omega) only [bz_0, Classical.not_not, Int32.not_le, Int32.not_lt, Nat.not_le, Nat.not_lt, nI_leI, nI_ltI, nI_eq, nI_le0, nI_lt0] at c8
    refine am_aload_n fx dX6_cost_11 rfl ?_
    refine am_getR fx dX6_cost_12 fkX6_12 (by decide) (by decide) rfl (so6 hb) (rf6_0 hb) ?_
    refine am_iload_n fx dX6_cost_15 rfl ?_
    refine am_callV fx dX6_cost_16 mkX6_59 (ct_X5_hasInstance hb ht _) (so5 hb) ⟨by decide, rfl⟩ rfl (Nat.le_of_ble_eq_true rfl) ⟨by decide, by decide⟩ ⟨Nat.le_of_ble_eq_true rfl, Nat.le_of_ble_eq_true rfl⟩ rfl ?_
    rintro _ _ ⟨rfl, rfl⟩
    refine am_if_ne fx 24 dX6_cost_19 (by decide) (fun c19 => ?_) (fun c19 => ?_)
    · try simp (disch := omega) only [bz_0, Classical.not_not, Int32.not_le, Int32.not_lt, Nat.not_le, Nat.not_lt, nI_leI, nI_ltI, nI_eq, nI_le0, nI_lt0] at c19
      refine am_iload_n fx dX6_cost_24 rfl ?_
      refine am_iconst (v := (-1)) fx dX6_cost_25 (by decide) ?_
      refine am_icmp_eq fx 42 dX6_cost_26 (by decide) (fun c26 => ?_) (fun c26 => ?_)
      · skip
        have hx2 : (x = -1 ∨ (0 ≤ x ∧ x ≤ 1000000)) := Or.inl c26
        refine am_aload_n fx dX6_cost_42 rfl ?_
        refine am_getR fx dX6_cost_43 fkX6_12 (by decide) (by decide) rfl (so6 hb) (rf6_0 hb) ?_
        refine am_iload_n fx dX6_cost_46 rfl ?_
        refine am_iload_n fx dX6_cost_47 rfl ?_
        refine am_callV fx dX6_cost_48 mkX6_63 (ct_X5_costAt hb ht _ _) (so5 hb) ⟨by decide, rfl⟩ rfl (Nat.le_of_ble_eq_true rfl) ⟨by decide, by decide⟩ ⟨Nat.le_of_ble_eq_true rfl, Nat.le_of_ble_eq_true rfl⟩ rfl ?_
        rintro _ _ ⟨rfl, rfl⟩
        refine am_iconst (v := (-1)) fx dX6_cost_51 (by decide) ?_
        refine am_icmp_eq fx 58 dX6_cost_52 (by decide) (fun c52 => ?_) (fun c52 => ?_)
        · skip
          obtain ⟨s, hs, rfl⟩ := nI_rg2 c8 (by omega)
          obtain ⟨i, hi, rfl⟩ := nI_rg2 c19 (by omega)
          refine am_aload_n fx dX6_cost_58 rfl ?_
          refine am_getR fx dX6_cost_59 fkX6_12 (by decide) (by decide) rfl (so6 hb) (rf6_0 hb) ?_
          refine am_iload_n fx dX6_cost_62 rfl ?_
          refine am_iload_n fx dX6_cost_63 rfl ?_
          refine am_iload_n fx dX6_cost_64 rfl ?_
          refine am_iconst (v := (-1)) fx dX6_cost_65 (by decide) ?_
          refine am_icmp_ne fx 74 dX6_cost_66 (by decide) (fun c66 => ?_) (fun c66 => ?_)
          · skip
            refine am_iload_n fx dX6_cost_74 rfl ?_
            refine am_topi (show _ = (if x = -1 then (2000000 : Int32) else x) from (if_neg c66).symm) ?_
            refine am_callV fx dX6_cost_75 mkX6_68 (ct_X5_tell hb ht s i hs hi _) (so5 hb) ⟨by decide, rfl⟩ rfl (Nat.le_of_ble_eq_true rfl) ⟨by decide, by decide⟩ ⟨Nat.le_of_ble_eq_true rfl, Nat.le_of_ble_eq_true rfl⟩ rfl ?_
            rintro _ _ ⟨rfl, rfl⟩
            exact am_iret fx dX6_cost_78 (Or.inr (Or.inr (Or.inr ⟨hx2, c52, s, i, rfl, rfl, hs, hi, rfl, rfl⟩)))
          · skip
            refine am_ldc fx dX6_cost_69 kdX6_67 ?_
            refine am_goto fx 75 dX6_cost_71 (by decide) ?_
            refine am_topi (show _ = (if x = -1 then (2000000 : Int32) else x) from (if_pos c66).symm) ?_
            refine am_callV fx dX6_cost_75 mkX6_68 (ct_X5_tell hb ht s i hs hi _) (so5 hb) ⟨by decide, rfl⟩ rfl (Nat.le_of_ble_eq_true rfl) ⟨by decide, by decide⟩ ⟨Nat.le_of_ble_eq_true rfl, Nat.le_of_ble_eq_true rfl⟩ rfl ?_
            rintro _ _ ⟨rfl, rfl⟩
            exact am_iret fx dX6_cost_78 (Or.inr (Or.inr (Or.inr ⟨hx2, c52, s, i, rfl, rfl, hs, hi, rfl, rfl⟩)))
        · skip
          refine am_bipush (v := (-3)) fx dX6_cost_55 (by decide) ?_
          exact am_iret fx dX6_cost_57 (Or.inr (Or.inr (Or.inl ⟨⟨c8, c19⟩, hx2, c52, rfl, rfl⟩)))
      · skip
        refine am_iload_n fx dX6_cost_29 rfl ?_
        refine am_iconst (v := 0) fx dX6_cost_30 (by decide) ?_
        refine am_ldc fx dX6_cost_31 kdX6_62 ?_
        refine am_callS fx dX6_cost_33 mkX6_47 (ct_X6_isWithin hb _ _ _) rfl (Nat.le_of_ble_eq_true rfl) ⟨by decide, by decide⟩ ⟨Nat.le_of_ble_eq_true rfl, Nat.le_of_ble_eq_true rfl⟩ rfl ?_
        rintro _ _ ⟨rfl, rfl⟩
        refine am_if_ne fx 42 dX6_cost_36 (by decide) (fun c36 => ?_) (fun c36 => ?_)
        · try simp (disch := omega) only [bz_0, Classical.not_not, Int32.not_le, Int32.not_lt, Nat.not_le, Nat.not_lt, nI_leI, nI_ltI, nI_eq, nI_le0, nI_lt0] at c36
          have hx2 : (x = -1 ∨ (0 ≤ x ∧ x ≤ 1000000)) := Or.inr c36
          refine am_aload_n fx dX6_cost_42 rfl ?_
          refine am_getR fx dX6_cost_43 fkX6_12 (by decide) (by decide) rfl (so6 hb) (rf6_0 hb) ?_
          refine am_iload_n fx dX6_cost_46 rfl ?_
          refine am_iload_n fx dX6_cost_47 rfl ?_
          refine am_callV fx dX6_cost_48 mkX6_63 (ct_X5_costAt hb ht _ _) (so5 hb) ⟨by decide, rfl⟩ rfl (Nat.le_of_ble_eq_true rfl) ⟨by decide, by decide⟩ ⟨Nat.le_of_ble_eq_true rfl, Nat.le_of_ble_eq_true rfl⟩ rfl ?_
          rintro _ _ ⟨rfl, rfl⟩
          refine am_iconst (v := (-1)) fx dX6_cost_51 (by decide) ?_
          refine am_icmp_eq fx 58 dX6_cost_52 (by decide) (fun c52 => ?_) (fun c52 => ?_)
          · skip
            obtain ⟨s, hs, rfl⟩ := nI_rg2 c8 (by omega)
            obtain ⟨i, hi, rfl⟩ := nI_rg2 c19 (by omega)
            refine am_aload_n fx dX6_cost_58 rfl ?_
            refine am_getR fx dX6_cost_59 fkX6_12 (by decide) (by decide) rfl (so6 hb) (rf6_0 hb) ?_
            refine am_iload_n fx dX6_cost_62 rfl ?_
            refine am_iload_n fx dX6_cost_63 rfl ?_
            refine am_iload_n fx dX6_cost_64 rfl ?_
            refine am_iconst (v := (-1)) fx dX6_cost_65 (by decide) ?_
            refine am_icmp_ne fx 74 dX6_cost_66 (by decide) (fun c66 => ?_) (fun c66 => ?_)
            · skip
              refine am_iload_n fx dX6_cost_74 rfl ?_
              refine am_topi (show _ = (if x = -1 then (2000000 : Int32) else x) from (if_neg c66).symm) ?_
              refine am_callV fx dX6_cost_75 mkX6_68 (ct_X5_tell hb ht s i hs hi _) (so5 hb) ⟨by decide, rfl⟩ rfl (Nat.le_of_ble_eq_true rfl) ⟨by decide, by decide⟩ ⟨Nat.le_of_ble_eq_true rfl, Nat.le_of_ble_eq_true rfl⟩ rfl ?_
              rintro _ _ ⟨rfl, rfl⟩
              exact am_iret fx dX6_cost_78 (Or.inr (Or.inr (Or.inr ⟨hx2, c52, s, i, rfl, rfl, hs, hi, rfl, rfl⟩)))
            · skip
              refine am_ldc fx dX6_cost_69 kdX6_67 ?_
              refine am_goto fx 75 dX6_cost_71 (by decide) ?_
              refine am_topi (show _ = (if x = -1 then (2000000 : Int32) else x) from (if_pos c66).symm) ?_
              refine am_callV fx dX6_cost_75 mkX6_68 (ct_X5_tell hb ht s i hs hi _) (so5 hb) ⟨by decide, rfl⟩ rfl (Nat.le_of_ble_eq_true rfl) ⟨by decide, by decide⟩ ⟨Nat.le_of_ble_eq_true rfl, Nat.le_of_ble_eq_true rfl⟩ rfl ?_
              rintro _ _ ⟨rfl, rfl⟩
              exact am_iret fx dX6_cost_78 (Or.inr (Or.inr (Or.inr ⟨hx2, c52, s, i, rfl, rfl, hs, hi, rfl, rfl⟩)))
          · skip
            refine am_bipush (v := (-3)) fx dX6_cost_55 (by decide) ?_
            exact am_iret fx dX6_cost_57 (Or.inr (Or.inr (Or.inl ⟨⟨c8, c19⟩, hx2, c52, rfl, rfl⟩)))
        · try simp (disch := omega) only [bz_0, Classical.not_not, Int32.not_le, Int32.not_lt, Nat.not_le, Nat.not_lt, nI_leI, nI_ltI, nI_eq, nI_le0, nI_lt0] at c36
          refine am_bipush (v := (-2)) fx dX6_cost_39 (by decide) ?_
          exact am_iret fx dX6_cost_41 (Or.inr (Or.inl ⟨⟨c8, c19⟩, fun h => h.elim c26 c36, rfl, rfl⟩))
    · try simp (disch := omega) only [bz_0, Classical.not_not, Int32.not_le, Int32.not_lt, Nat.not_le, Nat.not_lt, nI_leI, nI_ltI, nI_eq, nI_le0, nI_lt0] at c19
      refine am_iconst (v := (-1)) fx dX6_cost_22 (by decide) ?_
      exact am_iret fx dX6_cost_23 (Or.inl ⟨fun h => c19 h.2, rfl, rfl⟩)
set_option maxRecDepth 100000 in
set_option maxHeartbeats 4000000 in
theorem ct_X6_costOf {E : am_E} {μ : am_M} (hb : Bs μ) {S N : Nat} (ht : Tb μ S N) (s i : Int32) : am_Ct E yX6_costOf cX6_costOf 4 (some .int) rmX6_costOf [.ref 1, .int s, .int i] μ (fun v μ' => v = some (.int (if ((0 ≤ s ∧ s < nI S) ∧ (0 ≤ i ∧ i < nI N)) then (if co μ S N s i = -1 then -3 else co μ S N s i) else -1)) ∧ μ = μ') := by
  refine am_Ct.of (ls := [some (.ref 1), some (.int s), some (.int i), none]) (by decide) (Nat.le_of_ble_eq_true rfl) rfl (fun C fx hnm => ?_)
  have hS := ht.s
  have hN := ht.n
  refine am_aload_n fx dX6_costOf_0 rfl ?_
  refine am_getR fx dX6_costOf_1 fkX6_12 (by decide) (by decide) rfl (so6 hb) (rf6_0 hb) ?_
  refine am_iload_n fx dX6_costOf_4 rfl ?_
  refine am_callV fx dX6_costOf_5 mkX6_55 (ct_X5_hasSetting hb ht _) (so5 hb) ⟨by decide, rfl⟩ rfl (Nat.le_of_ble_eq_true rfl) ⟨by decide, by decide⟩ ⟨Nat.le_of_ble_eq_true rfl, Nat.le_of_ble_eq_true rfl⟩ rfl ?_
  rintro _ _ ⟨rfl, rfl⟩
  refine am_if_eq fx 22 dX6_costOf_8 (by decide) (fun c8 => ?_) (fun c8 => ?_)
  · try simp (disch := omega) only [bz_0, Classical.not_not, Int32.not_le, Int32.not_lt, Nat.not_le, Nat.not_lt, nI_leI, nI_ltI, nI_eq, nI_le0, nI_lt0] at c8
    refine am_iconst (v := (-1)) fx dX6_costOf_22 (by decide) ?_
    exact am_iret fx dX6_costOf_23 ⟨by rw [if_neg (fun h => c8 h.1)], rfl⟩
  · try simp (disch := omega) only [bz_0, Classical.not_not, Int32.not_le, Int32.not_lt, Nat.not_le, Nat.not_lt, nI_leI, nI_ltI, nI_eq, nI_le0, nI_lt0] at c8
    refine am_aload_n fx dX6_costOf_11 rfl ?_
    refine am_getR fx dX6_costOf_12 fkX6_12 (by decide) (by decide) rfl (so6 hb) (rf6_0 hb) ?_
    refine am_iload_n fx dX6_costOf_15 rfl ?_
    refine am_callV fx dX6_costOf_16 mkX6_59 (ct_X5_hasInstance hb ht _) (so5 hb) ⟨by decide, rfl⟩ rfl (Nat.le_of_ble_eq_true rfl) ⟨by decide, by decide⟩ ⟨Nat.le_of_ble_eq_true rfl, Nat.le_of_ble_eq_true rfl⟩ rfl ?_
    rintro _ _ ⟨rfl, rfl⟩
    refine am_if_ne fx 24 dX6_costOf_19 (by decide) (fun c19 => ?_) (fun c19 => ?_)
    · try simp (disch := omega) only [bz_0, Classical.not_not, Int32.not_le, Int32.not_lt, Nat.not_le, Nat.not_lt, nI_leI, nI_ltI, nI_eq, nI_le0, nI_lt0] at c19
      refine am_aload_n fx dX6_costOf_24 rfl ?_
      refine am_getR fx dX6_costOf_25 fkX6_12 (by decide) (by decide) rfl (so6 hb) (rf6_0 hb) ?_
      refine am_iload_n fx dX6_costOf_28 rfl ?_
      refine am_iload_n fx dX6_costOf_29 rfl ?_
      refine am_callV fx dX6_costOf_30 mkX6_63 (ct_X5_costAt hb ht _ _) (so5 hb) ⟨by decide, rfl⟩ rfl (Nat.le_of_ble_eq_true rfl) ⟨by decide, by decide⟩ ⟨Nat.le_of_ble_eq_true rfl, Nat.le_of_ble_eq_true rfl⟩ rfl ?_
      rintro _ _ ⟨rfl, rfl⟩
      refine am_istore_n fx dX6_costOf_33 (by decide) rfl ?_
      refine am_iload_n fx dX6_costOf_34 rfl ?_
      refine am_iconst (v := (-1)) fx dX6_costOf_35 (by decide) ?_
      refine am_icmp_ne fx 44 dX6_costOf_36 (by decide) (fun c36 => ?_) (fun c36 => ?_)
      · skip
        refine am_iload_n fx dX6_costOf_44 rfl ?_
        exact am_iret fx dX6_costOf_45 ⟨by rw [if_pos ⟨c8, c19⟩, if_neg c36], rfl⟩
      · skip
        refine am_bipush (v := (-3)) fx dX6_costOf_39 (by decide) ?_
        refine am_goto fx 45 dX6_costOf_41 (by decide) ?_
        exact am_iret fx dX6_costOf_45 ⟨by rw [if_pos ⟨c8, c19⟩, if_pos c36], rfl⟩
    · try simp (disch := omega) only [bz_0, Classical.not_not, Int32.not_le, Int32.not_lt, Nat.not_le, Nat.not_lt, nI_leI, nI_ltI, nI_eq, nI_le0, nI_lt0] at c19
      refine am_iconst (v := (-1)) fx dX6_costOf_22 (by decide) ?_
      exact am_iret fx dX6_costOf_23 ⟨by rw [if_neg (fun h => c19 h.2)], rfl⟩
set_option maxRecDepth 100000 in
set_option maxHeartbeats 4000000 in
theorem ct_X6_wantsN {E : am_E} {μ : am_M} (hb : Bs μ) (hcu : mm_R μ 1 4 = none) (x : Int32) : am_Ct E yX6_wants cX6_wants 2 (some .int) rmX6_wants [.ref 1, .int x] μ (fun v μ' => v = some (.int (if 0 ≤ x ∧ x ≤ 1 then -3 else -2)) ∧ μ = μ') := by
  refine am_Ct.of (ls := [some (.ref 1), some (.int x)]) (by decide) (Nat.le_of_ble_eq_true rfl) rfl (fun C fx hnm => ?_)
  refine am_iload_n fx dX6_wants_0 rfl ?_
  refine am_iconst (v := 0) fx dX6_wants_1 (by decide) ?_
  refine am_iconst (v := 1) fx dX6_wants_2 (by decide) ?_
  refine am_callS fx dX6_wants_3 mkX6_47 (ct_X6_isWithin hb _ _ _) rfl (Nat.le_of_ble_eq_true rfl) ⟨by decide, by decide⟩ ⟨Nat.le_of_ble_eq_true rfl, Nat.le_of_ble_eq_true rfl⟩ rfl ?_
  rintro _ _ ⟨rfl, rfl⟩
  refine am_if_ne fx 12 dX6_wants_6 (by decide) (fun c6 => ?_) (fun c6 => ?_)
  · try simp (disch := omega) only [bz_0, Classical.not_not, Int32.not_le, Int32.not_lt, Nat.not_le, Nat.not_lt, nI_leI, nI_ltI, nI_eq, nI_le0, nI_lt0] at c6
    refine am_aload_n fx dX6_wants_12 rfl ?_
    refine am_getN fx dX6_wants_13 fkX6_39 (by decide) (by decide) rfl (so6 hb) hcu ?_
    refine am_ifnullN fx 29 dX6_wants_16 (by decide) ?_
    refine am_bipush (v := (-3)) fx dX6_wants_29 (by decide) ?_
    exact am_iret fx dX6_wants_31 ⟨by rw [if_pos c6], rfl⟩
  · try simp (disch := omega) only [bz_0, Classical.not_not, Int32.not_le, Int32.not_lt, Nat.not_le, Nat.not_lt, nI_leI, nI_ltI, nI_eq, nI_le0, nI_lt0] at c6
    refine am_bipush (v := (-2)) fx dX6_wants_9 (by decide) ?_
    exact am_iret fx dX6_wants_11 ⟨by rw [if_neg c6], rfl⟩
set_option maxRecDepth 100000 in
set_option maxHeartbeats 4000000 in
theorem ct_X6_wants {E : am_E} {μ : am_M} (hb : Bs μ) {q L : Nat} (hr : Rc μ q L) {En Rd : Nat} (ha : Ra μ q En Rd) (hcu : mm_R μ 1 4 = some (q + 1)) (x : Int32) : am_Ct E yX6_wants cX6_wants 2 (some .int) rmX6_wants [.ref 1, .int x] μ (fun v μ' => v = some (.int (if 0 ≤ x ∧ x ≤ 1 then (if mm_I μ (q + 1) 14 = 0 then (if x = 0 then mm_I μ (q + 1) 11 else (if 0 ≤ nI Rd ∧ nI Rd < nI L then mm_I μ (q + 19) (nI Rd).toNatClampNeg else -1)) else -3) else -2)) ∧ μ = μ') := by
  refine am_Ct.of (ls := [some (.ref 1), some (.int x)]) (by decide) (Nat.le_of_ble_eq_true rfl) rfl (fun C fx hnm => ?_)
  refine am_iload_n fx dX6_wants_0 rfl ?_
  refine am_iconst (v := 0) fx dX6_wants_1 (by decide) ?_
  refine am_iconst (v := 1) fx dX6_wants_2 (by decide) ?_
  refine am_callS fx dX6_wants_3 mkX6_47 (ct_X6_isWithin hb _ _ _) rfl (Nat.le_of_ble_eq_true rfl) ⟨by decide, by decide⟩ ⟨Nat.le_of_ble_eq_true rfl, Nat.le_of_ble_eq_true rfl⟩ rfl ?_
  rintro _ _ ⟨rfl, rfl⟩
  refine am_if_ne fx 12 dX6_wants_6 (by decide) (fun c6 => ?_) (fun c6 => ?_)
  · try simp (disch := omega) only [bz_0, Classical.not_not, Int32.not_le, Int32.not_lt, Nat.not_le, Nat.not_lt, nI_leI, nI_ltI, nI_eq, nI_le0, nI_lt0] at c6
    refine am_aload_n fx dX6_wants_12 rfl ?_
    refine am_getR fx dX6_wants_13 fkX6_39 (by decide) (by decide) rfl (so6 hb) hcu ?_
    refine am_ifnull fx dX6_wants_16 ?_
    refine am_aload_n fx dX6_wants_19 rfl ?_
    refine am_getR fx dX6_wants_20 fkX6_39 (by decide) (by decide) rfl (so6 hb) hcu ?_
    refine am_getI fx dX6_wants_23 fkX6_97 (by decide) (by decide) rfl (so2 hr) rfl ?_
    refine am_if_eq fx 32 dX6_wants_26 (by decide) (fun c26 => ?_) (fun c26 => ?_)
    · skip
      refine am_iload_n fx dX6_wants_32 rfl ?_
      refine am_if_ne fx 46 dX6_wants_33 (by decide) (fun c33 => ?_) (fun c33 => ?_)
      · skip
        refine am_aload_n fx dX6_wants_46 rfl ?_
        refine am_getR fx dX6_wants_47 fkX6_39 (by decide) (by decide) rfl (so6 hb) hcu ?_
        refine am_aload_n fx dX6_wants_50 rfl ?_
        refine am_getR fx dX6_wants_51 fkX6_39 (by decide) (by decide) rfl (so6 hb) hcu ?_
        refine am_getI fx dX6_wants_54 fkX6_103 (by decide) (by decide) rfl (so2 hr) ha.2.1 ?_
        refine am_callV fx dX6_wants_57 mkX6_106 (ct_X2_instanceAt hb hr _) (so2 hr) ⟨by decide, rfl⟩ rfl (Nat.le_of_ble_eq_true rfl) ⟨by decide, by decide⟩ ⟨Nat.le_of_ble_eq_true rfl, Nat.le_of_ble_eq_true rfl⟩ rfl ?_
        rintro _ _ ⟨rfl, rfl⟩
        exact am_iret fx dX6_wants_60 ⟨by rw [if_pos c6, if_pos c26, if_neg c33], rfl⟩
      · skip
        refine am_aload_n fx dX6_wants_36 rfl ?_
        refine am_getR fx dX6_wants_37 fkX6_39 (by decide) (by decide) rfl (so6 hb) hcu ?_
        refine am_getI fx dX6_wants_40 fkX6_100 (by decide) (by decide) rfl (so2 hr) rfl ?_
        refine am_goto fx 60 dX6_wants_43 (by decide) ?_
        exact am_iret fx dX6_wants_60 ⟨by rw [if_pos c6, if_pos c26, if_pos c33], rfl⟩
    · skip
      refine am_bipush (v := (-3)) fx dX6_wants_29 (by decide) ?_
      exact am_iret fx dX6_wants_31 ⟨by rw [if_pos c6, if_neg c26], rfl⟩
  · try simp (disch := omega) only [bz_0, Classical.not_not, Int32.not_le, Int32.not_lt, Nat.not_le, Nat.not_lt, nI_leI, nI_ltI, nI_eq, nI_le0, nI_lt0] at c6
    refine am_bipush (v := (-2)) fx dX6_wants_9 (by decide) ?_
    exact am_iret fx dX6_wants_11 ⟨by rw [if_neg c6], rfl⟩
set_option maxRecDepth 100000 in
set_option maxHeartbeats 4000000 in
theorem ct_X6_leftN {E : am_E} {μ : am_M} (hb : Bs μ) (hcu : mm_R μ 1 4 = none) (x : Int32) : am_Ct E yX6_left cX6_left 2 (some .int) rmX6_left [.ref 1, .int x] μ (fun v μ' => v = some (.int (-1)) ∧ μ = μ') := by
  refine am_Ct.of (ls := [some (.ref 1), some (.int x)]) (by decide) (Nat.le_of_ble_eq_true rfl) rfl (fun C fx hnm => ?_)
  refine am_aload_n fx dX6_left_0 rfl ?_
  refine am_getN fx dX6_left_1 fkX6_39 (by decide) (by decide) rfl (so6 hb) hcu ?_
  refine am_ifnonnullN fx dX6_left_4 ?_
  refine am_iconst (v := (-1)) fx dX6_left_7 (by decide) ?_
  exact am_iret fx dX6_left_8 ⟨rfl, rfl⟩
set_option maxRecDepth 100000 in
set_option maxHeartbeats 4000000 in
theorem ct_X6_left {E : am_E} {μ : am_M} (hb : Bs μ) {q L : Nat} (hr : Rc μ q L) {En Rd : Nat} (ha : Ra μ q En Rd) (hcu : mm_R μ 1 4 = some (q + 1)) (x : Int32) : am_Ct E yX6_left cX6_left 2 (some .int) rmX6_left [.ref 1, .int x] μ (fun v μ' => v = some (.int (if x = -1 then mm_I μ (q + 1) 10 else (if 0 ≤ x then enO (-1) (kth (fun s => decide (mm_I μ (q + 15) s = 0)) En x.toNatClampNeg) else -1))) ∧ μ = μ') := by
  refine am_Ct.of (ls := [some (.ref 1), some (.int x)]) (by decide) (Nat.le_of_ble_eq_true rfl) rfl (fun C fx hnm => ?_)
  refine am_aload_n fx dX6_left_0 rfl ?_
  refine am_getR fx dX6_left_1 fkX6_39 (by decide) (by decide) rfl (so6 hb) hcu ?_
  refine am_ifnonnull fx 9 dX6_left_4 (by decide) ?_
  refine am_iload_n fx dX6_left_9 rfl ?_
  refine am_iconst (v := (-1)) fx dX6_left_10 (by decide) ?_
  refine am_icmp_ne fx 24 dX6_left_11 (by decide) (fun c11 => ?_) (fun c11 => ?_)
  · skip
    refine am_aload_n fx dX6_left_24 rfl ?_
    refine am_getR fx dX6_left_25 fkX6_39 (by decide) (by decide) rfl (so6 hb) hcu ?_
    refine am_iload_n fx dX6_left_28 rfl ?_
    refine am_callV fx dX6_left_29 mkX6_116 (ct_X2_remainingAt hb hr ha _) (so2 hr) ⟨by decide, rfl⟩ rfl (Nat.le_of_ble_eq_true rfl) ⟨by decide, by decide⟩ ⟨Nat.le_of_ble_eq_true rfl, Nat.le_of_ble_eq_true rfl⟩ rfl ?_
    rintro _ _ ⟨rfl, rfl⟩
    exact am_iret fx dX6_left_32 ⟨by rw [if_neg c11], rfl⟩
  · skip
    refine am_aload_n fx dX6_left_14 rfl ?_
    refine am_getR fx dX6_left_15 fkX6_39 (by decide) (by decide) rfl (so6 hb) hcu ?_
    refine am_getI fx dX6_left_18 fkX6_113 (by decide) (by decide) rfl (so2 hr) rfl ?_
    refine am_goto fx 32 dX6_left_21 (by decide) ?_
    exact am_iret fx dX6_left_32 ⟨by rw [if_pos c11], rfl⟩
set_option maxRecDepth 100000 in
set_option maxHeartbeats 4000000 in
theorem ct_X6_rankN {E : am_E} {μ : am_M} (hb : Bs μ) (hcu : mm_R μ 1 4 = none) (x : Int32) : am_Ct E yX6_rank cX6_rank 2 (some .int) rmX6_rank [.ref 1, .int x] μ (fun v μ' => v = some (.int (-1)) ∧ μ = μ') := by
  refine am_Ct.of (ls := [some (.ref 1), some (.int x)]) (by decide) (Nat.le_of_ble_eq_true rfl) rfl (fun C fx hnm => ?_)
  refine am_aload_n fx dX6_rank_0 rfl ?_
  refine am_getN fx dX6_rank_1 fkX6_39 (by decide) (by decide) rfl (so6 hb) hcu ?_
  refine am_ifnullN fx 18 dX6_rank_4 (by decide) ?_
  refine am_iconst (v := (-1)) fx dX6_rank_18 (by decide) ?_
  exact am_iret fx dX6_rank_19 ⟨rfl, rfl⟩
set_option maxRecDepth 100000 in
set_option maxHeartbeats 4000000 in
theorem ct_X6_rank {E : am_E} {μ : am_M} (hb : Bs μ) {q L : Nat} (hr : Rc μ q L) {En Rd : Nat} (ha : Ra μ q En Rd) (hcu : mm_R μ 1 4 = some (q + 1)) (x : Int32) : am_Ct E yX6_rank cX6_rank 2 (some .int) rmX6_rank [.ref 1, .int x] μ (fun v μ' => v = some (.int (if ((0 ≤ x ∧ x < nI En) ∧ mm_I μ (q + 15) x.toNatClampNeg = 0) then nI (rkN (lft μ q) (tkn μ q) Rd x.toNatClampNeg En) else -1)) ∧ μ = μ') := by
  refine am_Ct.of (ls := [some (.ref 1), some (.int x)]) (by decide) (Nat.le_of_ble_eq_true rfl) rfl (fun C fx hnm => ?_)
  have hE := ha.e
  refine am_aload_n fx dX6_rank_0 rfl ?_
  refine am_getR fx dX6_rank_1 fkX6_39 (by decide) (by decide) rfl (so6 hb) hcu ?_
  refine am_ifnull fx dX6_rank_4 ?_
  refine am_aload_n fx dX6_rank_7 rfl ?_
  refine am_getR fx dX6_rank_8 fkX6_39 (by decide) (by decide) rfl (so6 hb) hcu ?_
  refine am_iload_n fx dX6_rank_11 rfl ?_
  refine am_callV fx dX6_rank_12 mkX6_125 (ct_X2_isLeft hb hr ha _) (so2 hr) ⟨by decide, rfl⟩ rfl (Nat.le_of_ble_eq_true rfl) ⟨by decide, by decide⟩ ⟨Nat.le_of_ble_eq_true rfl, Nat.le_of_ble_eq_true rfl⟩ rfl ?_
  rintro _ _ ⟨rfl, rfl⟩
  refine am_if_ne fx 20 dX6_rank_15 (by decide) (fun c15 => ?_) (fun c15 => ?_)
  · try simp (disch := omega) only [bz_0, Classical.not_not, Int32.not_le, Int32.not_lt, Nat.not_le, Nat.not_lt, nI_leI, nI_ltI, nI_eq, nI_le0, nI_lt0] at c15
    obtain ⟨x, hx, rfl⟩ := nI_rg2 c15.1 (by omega)
    refine am_aload_n fx dX6_rank_20 rfl ?_
    refine am_getR fx dX6_rank_21 fkX6_39 (by decide) (by decide) rfl (so6 hb) hcu ?_
    refine am_iload_n fx dX6_rank_24 rfl ?_
    refine am_callV fx dX6_rank_25 mkX6_128 (ct_X2_rankOf hb hr ha x (by omega)) (so2 hr) ⟨by decide, rfl⟩ rfl (Nat.le_of_ble_eq_true rfl) ⟨by decide, by decide⟩ ⟨Nat.le_of_ble_eq_true rfl, Nat.le_of_ble_eq_true rfl⟩ rfl ?_
    rintro _ _ ⟨rfl, rfl⟩
    exact am_iret fx dX6_rank_28 ⟨by rw [if_pos c15, nI_clamp (by omega)], rfl⟩
  · try simp (disch := omega) only [bz_0, Classical.not_not, Int32.not_le, Int32.not_lt, Nat.not_le, Nat.not_lt, nI_leI, nI_ltI, nI_eq, nI_le0, nI_lt0] at c15
    refine am_iconst (v := (-1)) fx dX6_rank_18 (by decide) ?_
    exact am_iret fx dX6_rank_19 ⟨by rw [if_neg c15], rfl⟩
set_option maxRecDepth 100000 in
set_option maxHeartbeats 4000000 in
theorem ct_X6_droppedN {E : am_E} {μ : am_M} (hb : Bs μ) (hcu : mm_R μ 1 4 = none) (x : Int32) : am_Ct E yX6_dropped cX6_dropped 2 (some .int) rmX6_dropped [.ref 1, .int x] μ (fun v μ' => v = some (.int (-1)) ∧ μ = μ') := by
  refine am_Ct.of (ls := [some (.ref 1), some (.int x)]) (by decide) (Nat.le_of_ble_eq_true rfl) rfl (fun C fx hnm => ?_)
  refine am_aload_n fx dX6_dropped_0 rfl ?_
  refine am_getN fx dX6_dropped_1 fkX6_39 (by decide) (by decide) rfl (so6 hb) hcu ?_
  refine am_ifnullN fx 18 dX6_dropped_4 (by decide) ?_
  refine am_iconst (v := (-1)) fx dX6_dropped_18 (by decide) ?_
  exact am_iret fx dX6_dropped_19 ⟨rfl, rfl⟩
set_option maxRecDepth 100000 in
set_option maxHeartbeats 4000000 in
theorem ct_X6_dropped {E : am_E} {μ : am_M} (hb : Bs μ) {q L : Nat} (hr : Rc μ q L) {En Rd : Nat} (ha : Ra μ q En Rd) (hcu : mm_R μ 1 4 = some (q + 1)) (x : Int32) : am_Ct E yX6_dropped cX6_dropped 2 (some .int) rmX6_dropped [.ref 1, .int x] μ (fun v μ' => v = some (.int (if 0 ≤ x ∧ x < nI En then (if mm_I μ (q + 15) x.toNatClampNeg = 0 then -3 else mm_I μ (q + 15) x.toNatClampNeg) else -1)) ∧ μ = μ') := by
  refine am_Ct.of (ls := [some (.ref 1), some (.int x)]) (by decide) (Nat.le_of_ble_eq_true rfl) rfl (fun C fx hnm => ?_)
  have hE := ha.e
  refine am_aload_n fx dX6_dropped_0 rfl ?_
  refine am_getR fx dX6_dropped_1 fkX6_39 (by decide) (by decide) rfl (so6 hb) hcu ?_
  refine am_ifnull fx dX6_dropped_4 ?_
  refine am_aload_n fx dX6_dropped_7 rfl ?_
  refine am_getR fx dX6_dropped_8 fkX6_39 (by decide) (by decide) rfl (so6 hb) hcu ?_
  refine am_iload_n fx dX6_dropped_11 rfl ?_
  refine am_callV fx dX6_dropped_12 mkX6_131 (ct_X2_isEntered hb hr ha _) (so2 hr) ⟨by decide, rfl⟩ rfl (Nat.le_of_ble_eq_true rfl) ⟨by decide, by decide⟩ ⟨Nat.le_of_ble_eq_true rfl, Nat.le_of_ble_eq_true rfl⟩ rfl ?_
  rintro _ _ ⟨rfl, rfl⟩
  refine am_if_ne fx 20 dX6_dropped_15 (by decide) (fun c15 => ?_) (fun c15 => ?_)
  · try simp (disch := omega) only [bz_0, Classical.not_not, Int32.not_le, Int32.not_lt, Nat.not_le, Nat.not_lt, nI_leI, nI_ltI, nI_eq, nI_le0, nI_lt0] at c15
    refine am_aload_n fx dX6_dropped_20 rfl ?_
    refine am_getR fx dX6_dropped_21 fkX6_39 (by decide) (by decide) rfl (so6 hb) hcu ?_
    refine am_iload_n fx dX6_dropped_24 rfl ?_
    refine am_callV fx dX6_dropped_25 mkX6_125 (ct_X2_isLeft hb hr ha _) (so2 hr) ⟨by decide, rfl⟩ rfl (Nat.le_of_ble_eq_true rfl) ⟨by decide, by decide⟩ ⟨Nat.le_of_ble_eq_true rfl, Nat.le_of_ble_eq_true rfl⟩ rfl ?_
    rintro _ _ ⟨rfl, rfl⟩
    refine am_if_eq fx 36 dX6_dropped_28 (by decide) (fun c28 => ?_) (fun c28 => ?_)
    · skip
      have c28 := bz_0.mp c28
      obtain ⟨x, hx, rfl⟩ := nI_rg2 c15 (by omega)
      refine am_aload_n fx dX6_dropped_36 rfl ?_
      refine am_getR fx dX6_dropped_37 fkX6_39 (by decide) (by decide) rfl (so6 hb) hcu ?_
      refine am_getR fx dX6_dropped_40 fkX6_134 (by decide) (by decide) rfl (so2 hr) (rf2_6 hr) ?_
      refine am_iload_n fx dX6_dropped_43 rfl ?_
      refine am_iald  fx dX6_dropped_44 (sa2_6 hr) rfl (by omega) (by decide) rfl ?_
      exact am_iret fx dX6_dropped_45 ⟨by rw [if_pos c15, nI_clamp (by omega), if_neg (fun z => c28 ⟨c15, by rw [nI_clamp (by omega)]; exact z⟩)], rfl⟩
    · skip
      have c28 := Classical.not_not.mp (fun z => c28 (bz_0.mpr z))
      refine am_bipush (v := (-3)) fx dX6_dropped_31 (by decide) ?_
      refine am_goto fx 45 dX6_dropped_33 (by decide) ?_
      exact am_iret fx dX6_dropped_45 ⟨by rw [if_pos c15, if_pos c28.2], rfl⟩
  · try simp (disch := omega) only [bz_0, Classical.not_not, Int32.not_le, Int32.not_lt, Nat.not_le, Nat.not_lt, nI_leI, nI_ltI, nI_eq, nI_le0, nI_lt0] at c15
    refine am_iconst (v := (-1)) fx dX6_dropped_18 (by decide) ?_
    exact am_iret fx dX6_dropped_19 ⟨by rw [if_neg c15], rfl⟩
theorem lg_eq0 (x y : Int64) : lg_cmp x y = 0 ↔ x = y := by
  unfold lg_cmp
  by_cases h : x > y
  · rw [if_pos h]
    exact ⟨fun q => absurd q (by decide), fun q => by rw [q] at h; exact absurd h Int64.lt_irrefl⟩
  · rw [if_neg h]
    by_cases h2 : x = y
    · rw [if_pos h2]; exact ⟨fun _ => h2, fun _ => rfl⟩
    · rw [if_neg h2]; exact ⟨fun q => absurd q (by decide), fun q => absurd q h2⟩
theorem lN_0 : lN 0 = 0 := rfl
theorem mod_half {g m : Nat} (hm : 0 < m) (h : m < g) : 2 * (g % m) < g := by
  have h1 := Nat.mod_lt g hm
  have h2 := Nat.div_add_mod g m
  have h3 : 1 ≤ g / m := Nat.div_pos (by omega) hm
  have h4 : m * 1 ≤ m * (g / m) := Nat.mul_le_mul_left m h3
  omega
/-- step t of Euclid's way -/
def euS (t G M : Nat) : Prop := ∃ j, (t = 2 * j ∧ j ≤ 26 ∧ M < 2 ^ (26 - j)) ∨ (t = 2 * j + 1 ∧ j < 26 ∧ G < 2 ^ (26 - j) ∧ M < G)
theorem euS.step {t G M : Nat} (h : euS t G M) (hM : 0 < M) : euS (t + 1) M (G % M) ∧ t < 52 := by
  obtain ⟨j, ⟨h1, h2, h3⟩ | ⟨h1, h2, h3, h4⟩⟩ := h
  · have hj : j < 26 := by
      rcases Nat.lt_or_ge j 26 with z | z
      · exact z
      · rw [show 26 - j = 0 by omega] at h3
        simp at h3
        omega
    exact ⟨⟨j, Or.inr ⟨by omega, hj, h3, Nat.mod_lt _ hM⟩⟩, by omega⟩
  · refine ⟨⟨j + 1, Or.inl ⟨by omega, by omega, ?_⟩⟩, by omega⟩
    have h5 := mod_half hM h4
    have h6 : 2 ^ (26 - j) = 2 * 2 ^ (26 - (j + 1)) := by
      rw [show 26 - j = (26 - (j + 1)) + 1 by omega, Nat.pow_succ]
      omega
    omega
set_option maxRecDepth 100000 in
set_option maxHeartbeats 4000000 in
theorem ct_X6_greatestDivisor {E : am_E} {μ : am_M} {A B : Nat} (hA : A < 2 ^ 62) (hB : B < 2 ^ 26) : am_Ct E yX6_greatestDivisor cX6_greatestDivisor 11 (some .long) rmX6_greatestDivisor [.long (lN A), .long (lN B)] μ (fun v μ' => v = some (.long (lN (Nat.gcd A B))) ∧ μ = μ') := by
  refine am_Ct.of (ls := [some (.long (lN A)), none, some (.long (lN B)), none, none, none, none, none, none, none, none]) (by decide) (Nat.le_of_ble_eq_true rfl) rfl (fun C fx hnm => ?_)
  refine am_lload_n fx dX6_greatestDivisor_0 rfl ?_
  refine am_lstore fx dX6_greatestDivisor_1 (by decide) rfl ?_
  refine am_lload_n fx dX6_greatestDivisor_3 rfl ?_
  refine am_lstore fx dX6_greatestDivisor_4 (by decide) rfl ?_
  refine am_iconst (v := 0) fx dX6_greatestDivisor_6 (by decide) ?_
  refine am_istore fx dX6_greatestDivisor_7 (by decide) rfl ?_
  have lp9 : ∀ (mz : Nat) (t G M : Nat), M = mz → (euS t G M ∧ G < 2 ^ 62 ∧ M < 2 ^ 62 ∧ Nat.gcd G M = Nat.gcd A B ∧ t ≤ 60) → am_W E C (am_MQ E C (fun v μ' => v = some (.long (lN (Nat.gcd A B))) ∧ μ = μ') (rmX6_greatestDivisor).cells (rmX6_greatestDivisor).slots) μ 0 0 9 [some (.long (lN A)), none, some (.long (lN B)), none, some (.long (lN G)), none, some (.long (lN M)), none, some (.int (nI t)), none, none] [] := by
    intro mz
    induction mz using Nat.strongRecOn with
    | ind mz ih =>
      intro t G M hz hI
      obtain ⟨hE, hG, hM, hgc, ht60⟩ := hI
      refine am_iload fx dX6_greatestDivisor_9 rfl ?_
      refine am_bipush (v := (nI 64)) fx dX6_greatestDivisor_11 (by decide) ?_
      refine am_icmp_ge fx 44 dX6_greatestDivisor_13 (by decide) (fun c13 => ?_) (fun c13 => ?_)
      · try simp (disch := omega) only [bz_0, Classical.not_not, Int32.not_le, Int32.not_lt, Nat.not_le, Nat.not_lt, nI_leI, nI_ltI, nI_eq, nI_le0, nI_lt0] at c13
        exact absurd c13 (by omega)
      · try simp (disch := omega) only [bz_0, Classical.not_not, Int32.not_le, Int32.not_lt, Nat.not_le, Nat.not_lt, nI_leI, nI_ltI, nI_eq, nI_le0, nI_lt0] at c13
        refine am_lload fx dX6_greatestDivisor_16 rfl ?_
        refine am_lconst (v := 0) fx dX6_greatestDivisor_18 (by decide) ?_
        refine am_lcmp fx dX6_greatestDivisor_19 ?_
        refine am_if_eq fx 44 dX6_greatestDivisor_20 (by decide) (fun c20 => ?_) (fun c20 => ?_)
        · skip
          have c20 : M = 0 := by
            have h9 := (lg_eq0 _ _).mp c20
            rw [← lN_0, pk_lEQ (by omega) (by omega)] at h9
            exact h9
          refine am_lload fx dX6_greatestDivisor_44 rfl ?_
          exact am_lret fx dX6_greatestDivisor_46 ⟨by rw [← hgc, c20, Nat.gcd_zero_right], rfl⟩
        · skip
          have hM0 : 0 < M := by
            rcases Nat.eq_zero_or_pos M with z | z
            · exact absurd ((lg_eq0 _ _).mpr (by rw [z]; rfl)) c20
            · exact z
          refine am_lload fx dX6_greatestDivisor_23 rfl ?_
          refine am_lload fx dX6_greatestDivisor_25 rfl ?_
          refine am_lrem fx dX6_greatestDivisor_27 (fun z => by rw [← lN_0, pk_lEQ (by omega) (by omega)] at z; omega) ?_
          refine am_topl (pk_lRem (by omega) hM0 (by omega)) ?_
          refine am_lstore fx dX6_greatestDivisor_28 (by decide) rfl ?_
          refine am_lload fx dX6_greatestDivisor_30 rfl ?_
          refine am_lstore fx dX6_greatestDivisor_32 (by decide) rfl ?_
          refine am_lload fx dX6_greatestDivisor_34 rfl ?_
          refine am_lstore fx dX6_greatestDivisor_36 (by decide) rfl ?_
          first | refine am_iinc fx dX6_greatestDivisor_38 rfl (nI_inc _) (by decide) rfl ?_ | refine am_iinc fx dX6_greatestDivisor_38 rfl rfl (by decide) rfl ?_
          refine am_goto fx 9 dX6_greatestDivisor_41 (by decide) ?_
          refine am_sub [true, true, true, true, true, true, true, true, true, false, false] rfl ?_
          exact ih (G % M) (by rw [← hz]; exact Nat.mod_lt _ hM0) (t + 1) M (G % M) rfl ⟨(hE.step hM0).1, hM, Nat.lt_of_le_of_lt (Nat.mod_le _ _) hG, by rw [← hgc, Nat.gcd_comm M, ← Nat.gcd_rec, Nat.gcd_comm], by have := (hE.step hM0).2; omega⟩
  exact lp9 _ 0 A B rfl ⟨⟨0, Or.inl ⟨rfl, by omega, hB⟩⟩, hA, by omega, rfl, by omega⟩
set_option maxRecDepth 100000 in
set_option maxHeartbeats 4000000 in
theorem ct_X6_lowestTerms {E : am_E} {μ : am_M} {A B : Nat} (hA : A < 2 ^ 62) (hB : B < 2 ^ 26) (hB0 : 0 < B) (side : Int32) : am_Ct E yX6_lowestTerms cX6_lowestTerms 9 (some .long) rmX6_lowestTerms [.long (lN A), .long (lN B), .int side] μ (fun v μ' => v = some (.long (lN ((if side = 0 then A else B) / Nat.gcd A B))) ∧ μ = μ') := by
  refine am_Ct.of (ls := [some (.long (lN A)), none, some (.long (lN B)), none, some (.int side), none, none, none, none]) (by decide) (Nat.le_of_ble_eq_true rfl) rfl (fun C fx hnm => ?_)
  have hg0 : 0 < Nat.gcd A B := Nat.gcd_pos_of_pos_right A hB0
  have hgl : Nat.gcd A B ≤ B := Nat.le_of_dvd hB0 (Nat.gcd_dvd_right A B)
  refine am_lload_n fx dX6_lowestTerms_0 rfl ?_
  refine am_lload_n fx dX6_lowestTerms_1 rfl ?_
  refine am_callS fx dX6_lowestTerms_2 mkX6_223 (ct_X6_greatestDivisor hA hB) rfl (Nat.le_of_ble_eq_true rfl) ⟨by decide, by decide⟩ ⟨Nat.le_of_ble_eq_true rfl, Nat.le_of_ble_eq_true rfl⟩ rfl ?_
  rintro _ _ ⟨rfl, rfl⟩
  refine am_lstore fx dX6_lowestTerms_5 (by decide) rfl ?_
  refine am_iload fx dX6_lowestTerms_7 rfl ?_
  refine am_if_ne fx 16 dX6_lowestTerms_9 (by decide) (fun c9 => ?_) (fun c9 => ?_)
  · skip
    refine am_lload_n fx dX6_lowestTerms_16 rfl ?_
    refine am_lstore fx dX6_lowestTerms_17 (by decide) rfl ?_
    refine am_lload fx dX6_lowestTerms_19 rfl ?_
    refine am_lconst (v := 0) fx dX6_lowestTerms_21 (by decide) ?_
    refine am_lcmp fx dX6_lowestTerms_22 ?_
    refine am_if_ne fx 31 dX6_lowestTerms_23 (by decide) (fun c23 => ?_) (fun c23 => ?_)
    · skip
      refine am_lload fx dX6_lowestTerms_31 rfl ?_
      refine am_lload fx dX6_lowestTerms_33 rfl ?_
      refine am_ldiv fx dX6_lowestTerms_35 (fun z => by rw [← lN_0, pk_lEQ (by omega) (by omega)] at z; omega) ?_
      refine am_topl (pk_lDiv (by omega) hg0 (by omega)) ?_
      exact am_lret fx dX6_lowestTerms_36 ⟨by rw [if_neg c9], rfl⟩
    · skip
      exact absurd ((lg_eq0 _ _).mp c23) (fun z => by rw [← lN_0, pk_lEQ (by omega) (by omega)] at z; omega)
  · skip
    refine am_lload_n fx dX6_lowestTerms_12 rfl ?_
    refine am_goto fx 17 dX6_lowestTerms_13 (by decide) ?_
    refine am_lstore fx dX6_lowestTerms_17 (by decide) rfl ?_
    refine am_lload fx dX6_lowestTerms_19 rfl ?_
    refine am_lconst (v := 0) fx dX6_lowestTerms_21 (by decide) ?_
    refine am_lcmp fx dX6_lowestTerms_22 ?_
    refine am_if_ne fx 31 dX6_lowestTerms_23 (by decide) (fun c23 => ?_) (fun c23 => ?_)
    · skip
      refine am_lload fx dX6_lowestTerms_31 rfl ?_
      refine am_lload fx dX6_lowestTerms_33 rfl ?_
      refine am_ldiv fx dX6_lowestTerms_35 (fun z => by rw [← lN_0, pk_lEQ (by omega) (by omega)] at z; omega) ?_
      refine am_topl (pk_lDiv (by omega) hg0 (by omega)) ?_
      exact am_lret fx dX6_lowestTerms_36 ⟨by rw [if_pos c9], rfl⟩
    · skip
      exact absurd ((lg_eq0 _ _).mp c23) (fun z => by rw [← lN_0, pk_lEQ (by omega) (by omega)] at z; omega)
