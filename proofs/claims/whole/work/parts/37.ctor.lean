abbrev xiM0 (μ : am_M) : am_M := (mm_sL (mm_sL (mm_sI (mm_sR (mm_nw (mm_sR (mm_nw (mm_sR (mm_nw μ 8 24) 21 0 (some (mm_Z μ))) 10 24) 21 1 (some (mm_Z (mm_sR (mm_nw μ 8 24) 21 0 (some (mm_Z μ)))))) 9 601) 21 2 (some (mm_Z (mm_sR (mm_nw (mm_sR (mm_nw μ 8 24) 21 0 (some (mm_Z μ))) 10 24) 21 1 (some (mm_Z (mm_sR (mm_nw μ 8 24) 21 0 (some (mm_Z μ))))))))) 21 3 0) 21 4 1) 21 5 1)
set_option maxHeartbeats 1000000 in
theorem xi0_all {μ : am_M} (hz : mm_Z μ = 22) (ho : mm_S μ 21 = (0, 0)) : Kp2 μ (xiM0 μ) 21 ∧ mm_S (xiM0 μ) 21 = (0, 0) ∧ mm_S (xiM0 μ) 22 = (8, 24) ∧ mm_S (xiM0 μ) 23 = (10, 24) ∧ mm_S (xiM0 μ) 24 = (9, 601) ∧ mm_R (xiM0 μ) 21 0 = some 22 ∧ mm_R (xiM0 μ) 21 1 = some 23 ∧ mm_R (xiM0 μ) 21 2 = some 24 ∧ mm_Z (xiM0 μ) = 25 := by
  refine ⟨⟨fun a ha => ?_, fun a k ha => ?_, fun a k ha => ?_, fun a k ha => ?_⟩, ?_, ?_, ?_, ?_, ?_, ?_, ?_, ?_⟩
  all_goals
    simp only [mS_sI, mS_sL, mS_sR, mI_sL, mI_sR, mL_sI, mL_sR, mR_sI, mR_sL, mZ_sI, mZ_sL, mZ_sR, mI_sI, mR_sR, mS_nw, mI_nw, mL_nw, mR_nw, mZ_nw, mS_gr, mI_gr, mL_gr, mR_gr, mZ_gr, mI_fI, mL_fI, mS_fI, mR_fI, mZ_fI, mL_sL, hz]
    repeat (first | rw [if_neg (by omega)] | rw [if_pos (by omega)])
  all_goals
    first | assumption | (congr 1; omega) | rfl | (rw [if_pos trivial, if_pos hj]; try (congr 1; omega))
set_option maxRecDepth 100000 in
set_option maxHeartbeats 1000000 in
theorem ct_X0_init {E : am_E} {μ : am_M} (hz : mm_Z μ = 22) (ho : mm_S μ 21 = (0, 0)) : am_Ct E yX0_init cX0_init 1 none rmX0_init [.ref 21] μ (fun v μ' => v = none ∧ Kp2 μ μ' 21 ∧ mm_S μ' 21 = (0, 0) ∧ mm_S μ' 22 = (8, 24) ∧ mm_S μ' 23 = (10, 24) ∧ mm_S μ' 24 = (9, 601) ∧ mm_R μ' 21 0 = some 22 ∧ mm_R μ' 21 1 = some 23 ∧ mm_R μ' 21 2 = some 24 ∧ mm_Z μ' = 25) := by
  refine am_Ct.of (ls := [some (.ref 21)]) (by decide) (Nat.le_of_ble_eq_true rfl) rfl (fun C fx hnm => ?_)
  refine am_aload_n fx dX0_init_0 rfl ?_
  refine am_objInit fx dX0_init_1 moX0_3 kw_oi kw_oc ⟨by decide, Nat.le_of_ble_eq_true rfl⟩ ?_
  refine am_aload_n fx dX0_init_4 rfl ?_
  refine am_bipush (v := (nI 24)) fx dX0_init_5 (by decide) ?_
  refine am_newarr fx dX0_init_7 (Or.inl ⟨rfl, rfl⟩) kw_aint rfl (by decide) (by decide) (by decide) ?_
  refine am_putFR fx hnm dX0_init_9 fgX0_9 (by decide) (by decide) rfl rfl rfl (congrArg Prod.fst (nw_so ho (by omega))) ?_
  have s1 : mm_S (mm_sR (mm_nw μ 8 24) 21 0 (some (mm_Z μ))) 21 = (0, 0) := nw_so ho (by omega)
  have z1 : mm_Z (mm_sR (mm_nw μ 8 24) 21 0 (some (mm_Z μ))) = 23 := by
    show mm_Z μ + 1 = _
    omega
  generalize hM1 : mm_sR (mm_nw μ 8 24) 21 0 (some (mm_Z μ)) = M1 at s1 z1 ⊢
  refine am_aload_n fx dX0_init_12 rfl ?_
  refine am_bipush (v := (nI 24)) fx dX0_init_13 (by decide) ?_
  refine am_newarr fx dX0_init_15 (Or.inr (Or.inr ⟨rfl, rfl⟩)) kw_aboolean rfl (by decide) (by decide) (by decide) ?_
  refine am_putFR fx hnm dX0_init_17 fgX0_15 (by decide) (by decide) rfl rfl rfl (congrArg Prod.fst (nw_so s1 (by omega))) ?_
  have s2 : mm_S (mm_sR (mm_nw M1 10 24) 21 1 (some (mm_Z M1))) 21 = (0, 0) := nw_so s1 (by omega)
  have z2 : mm_Z (mm_sR (mm_nw M1 10 24) 21 1 (some (mm_Z M1))) = 24 := by
    show mm_Z M1 + 1 = _
    omega
  generalize hM2 : mm_sR (mm_nw M1 10 24) 21 1 (some (mm_Z M1)) = M2 at s2 z2 ⊢
  refine am_aload_n fx dX0_init_20 rfl ?_
  refine am_sipush (v := (nI 601)) fx dX0_init_21 (by decide) ?_
  refine am_newarr fx dX0_init_24 (Or.inr (Or.inl ⟨rfl, rfl⟩)) kw_along rfl (by decide) (by decide) (by decide) ?_
  refine am_putFR fx hnm dX0_init_26 fgX0_19 (by decide) (by decide) rfl rfl rfl (congrArg Prod.fst (nw_so s2 (by omega))) ?_
  have s3 : mm_S (mm_sR (mm_nw M2 9 601) 21 2 (some (mm_Z M2))) 21 = (0, 0) := nw_so s2 (by omega)
  have z3 : mm_Z (mm_sR (mm_nw M2 9 601) 21 2 (some (mm_Z M2))) = 25 := by
    show mm_Z M2 + 1 = _
    omega
  generalize hM3 : mm_sR (mm_nw M2 9 601) 21 2 (some (mm_Z M2)) = M3 at s3 z3 ⊢
  refine am_aload_n fx dX0_init_29 rfl ?_
  refine am_iconst (v := 0) fx dX0_init_30 (by decide) ?_
  refine am_putI fx dX0_init_31 fkX0_23 (by decide) (by decide) rfl rfl (congrArg Prod.fst s3) ?_
  have s4 : mm_S (mm_sI M3 21 3 0) 21 = (0, 0) := s3
  have z4 : mm_Z (mm_sI M3 21 3 0) = 25 := z3
  generalize hM4 : mm_sI M3 21 3 0 = M4 at s4 z4 ⊢
  refine am_aload_n fx dX0_init_34 rfl ?_
  refine am_lconst (v := 1) fx dX0_init_35 (by decide) ?_
  refine am_putL fx dX0_init_36 fkX0_27 (by decide) (by decide) rfl rfl (congrArg Prod.fst s4) ?_
  have s5 : mm_S (mm_sL M4 21 4 1) 21 = (0, 0) := s4
  have z5 : mm_Z (mm_sL M4 21 4 1) = 25 := z4
  generalize hM5 : mm_sL M4 21 4 1 = M5 at s5 z5 ⊢
  refine am_aload_n fx dX0_init_39 rfl ?_
  refine am_lconst (v := 1) fx dX0_init_40 (by decide) ?_
  refine am_putL fx dX0_init_41 fkX0_31 (by decide) (by decide) rfl rfl (congrArg Prod.fst s5) ?_
  have s6 : mm_S (mm_sL M5 21 5 1) 21 = (0, 0) := s5
  have z6 : mm_Z (mm_sL M5 21 5 1) = 25 := z5
  generalize hM6 : mm_sL M5 21 5 1 = M6 at s6 z6 ⊢
  have e9 : M6 = xiM0 μ := by rw [← hM6, ← hM5, ← hM4, ← hM3, ← hM2, ← hM1]
  refine am_widen (k := (rmX0_init).cells) (n := (rmX0_init).slots) (by decide) (by decide) ?_
  exact am_vret fx dX0_init_44 ⟨rfl, by rw [e9]; exact xi0_all hz ho⟩
abbrev xiM1 (μ : am_M) : am_M := (mm_sI (mm_sI (mm_sI (mm_sR (mm_gr (mm_sR (mm_nw (mm_sR (mm_nw (mm_sR (mm_nw μ 8 12) 25 0 (some (mm_Z μ))) 8 12) 25 1 (some (mm_Z (mm_sR (mm_nw μ 8 12) 25 0 (some (mm_Z μ)))))) 8 12) 25 2 (some (mm_Z (mm_sR (mm_nw (mm_sR (mm_nw μ 8 12) 25 0 (some (mm_Z μ))) 8 12) 25 1 (some (mm_Z (mm_sR (mm_nw μ 8 12) 25 0 (some (mm_Z μ))))))))) 13 24) 25 3 (some (mm_Z (mm_sR (mm_nw (mm_sR (mm_nw (mm_sR (mm_nw μ 8 12) 25 0 (some (mm_Z μ))) 8 12) 25 1 (some (mm_Z (mm_sR (mm_nw μ 8 12) 25 0 (some (mm_Z μ)))))) 8 12) 25 2 (some (mm_Z (mm_sR (mm_nw (mm_sR (mm_nw μ 8 12) 25 0 (some (mm_Z μ))) 8 12) 25 1 (some (mm_Z (mm_sR (mm_nw μ 8 12) 25 0 (some (mm_Z μ)))))))))))) 25 4 0) 25 5 0) 25 6 0)
set_option maxHeartbeats 1000000 in
theorem xi1_all {μ : am_M} (hz : mm_Z μ = 26) (ho : mm_S μ 25 = (1, 0)) : Kp2 μ (xiM1 μ) 25 ∧ mm_S (xiM1 μ) 25 = (1, 0) ∧ mm_S (xiM1 μ) 26 = (8, 12) ∧ mm_S (xiM1 μ) 27 = (8, 12) ∧ mm_S (xiM1 μ) 28 = (8, 12) ∧ mm_S (xiM1 μ) 29 = (11, 13) ∧ (∀ j, j < 13 → mm_S (xiM1 μ) (30 + j) = (8, 24)) ∧ mm_R (xiM1 μ) 25 0 = some 26 ∧ mm_R (xiM1 μ) 25 1 = some 27 ∧ mm_R (xiM1 μ) 25 2 = some 28 ∧ mm_R (xiM1 μ) 25 3 = some 29 ∧ (∀ j, j < 13 → mm_R (xiM1 μ) 29 j = some (30 + j)) ∧ mm_Z (xiM1 μ) = 43 := by
  refine ⟨⟨fun a ha => ?_, fun a k ha => ?_, fun a k ha => ?_, fun a k ha => ?_⟩, ?_, ?_, ?_, ?_, ?_, fun j hj => ?_, ?_, ?_, ?_, ?_, fun j hj => ?_, ?_⟩
  all_goals
    simp only [mS_sI, mS_sL, mS_sR, mI_sL, mI_sR, mL_sI, mL_sR, mR_sI, mR_sL, mZ_sI, mZ_sL, mZ_sR, mI_sI, mR_sR, mS_nw, mI_nw, mL_nw, mR_nw, mZ_nw, mS_gr, mI_gr, mL_gr, mR_gr, mZ_gr, mI_fI, mL_fI, mS_fI, mR_fI, mZ_fI, mL_sL, hz]
    repeat (first | rw [if_neg (by omega)] | rw [if_pos (by omega)])
  all_goals
    first | assumption | (congr 1; omega) | rfl | (rw [if_pos trivial, if_pos hj]; try (congr 1; omega))
set_option maxRecDepth 100000 in
set_option maxHeartbeats 1000000 in
theorem ct_X1_init {E : am_E} {μ : am_M} (hz : mm_Z μ = 26) (ho : mm_S μ 25 = (1, 0)) : am_Ct E yX1_init cX1_init 1 none rmX1_init [.ref 25] μ (fun v μ' => v = none ∧ Kp2 μ μ' 25 ∧ mm_S μ' 25 = (1, 0) ∧ mm_S μ' 26 = (8, 12) ∧ mm_S μ' 27 = (8, 12) ∧ mm_S μ' 28 = (8, 12) ∧ mm_S μ' 29 = (11, 13) ∧ (∀ j, j < 13 → mm_S μ' (30 + j) = (8, 24)) ∧ mm_R μ' 25 0 = some 26 ∧ mm_R μ' 25 1 = some 27 ∧ mm_R μ' 25 2 = some 28 ∧ mm_R μ' 25 3 = some 29 ∧ (∀ j, j < 13 → mm_R μ' 29 j = some (30 + j)) ∧ mm_Z μ' = 43) := by
  refine am_Ct.of (ls := [some (.ref 25)]) (by decide) (Nat.le_of_ble_eq_true rfl) rfl (fun C fx hnm => ?_)
  refine am_aload_n fx dX1_init_0 rfl ?_
  refine am_objInit fx dX1_init_1 moX1_3 kw_oi kw_oc ⟨by decide, Nat.le_of_ble_eq_true rfl⟩ ?_
  refine am_aload_n fx dX1_init_4 rfl ?_
  refine am_bipush (v := (nI 12)) fx dX1_init_5 (by decide) ?_
  refine am_newarr fx dX1_init_7 (Or.inl ⟨rfl, rfl⟩) kw_aint rfl (by decide) (by decide) (by decide) ?_
  refine am_putFR fx hnm dX1_init_9 fgX1_9 (by decide) (by decide) rfl rfl rfl (congrArg Prod.fst (nw_so ho (by omega))) ?_
  have s1 : mm_S (mm_sR (mm_nw μ 8 12) 25 0 (some (mm_Z μ))) 25 = (1, 0) := nw_so ho (by omega)
  have z1 : mm_Z (mm_sR (mm_nw μ 8 12) 25 0 (some (mm_Z μ))) = 27 := by
    show mm_Z μ + 1 = _
    omega
  generalize hM1 : mm_sR (mm_nw μ 8 12) 25 0 (some (mm_Z μ)) = M1 at s1 z1 ⊢
  refine am_aload_n fx dX1_init_12 rfl ?_
  refine am_bipush (v := (nI 12)) fx dX1_init_13 (by decide) ?_
  refine am_newarr fx dX1_init_15 (Or.inl ⟨rfl, rfl⟩) kw_aint rfl (by decide) (by decide) (by decide) ?_
  refine am_putFR fx hnm dX1_init_17 fgX1_15 (by decide) (by decide) rfl rfl rfl (congrArg Prod.fst (nw_so s1 (by omega))) ?_
  have s2 : mm_S (mm_sR (mm_nw M1 8 12) 25 1 (some (mm_Z M1))) 25 = (1, 0) := nw_so s1 (by omega)
  have z2 : mm_Z (mm_sR (mm_nw M1 8 12) 25 1 (some (mm_Z M1))) = 28 := by
    show mm_Z M1 + 1 = _
    omega
  generalize hM2 : mm_sR (mm_nw M1 8 12) 25 1 (some (mm_Z M1)) = M2 at s2 z2 ⊢
  refine am_aload_n fx dX1_init_20 rfl ?_
  refine am_bipush (v := (nI 12)) fx dX1_init_21 (by decide) ?_
  refine am_newarr fx dX1_init_23 (Or.inl ⟨rfl, rfl⟩) kw_aint rfl (by decide) (by decide) (by decide) ?_
  refine am_putFR fx hnm dX1_init_25 fgX1_18 (by decide) (by decide) rfl rfl rfl (congrArg Prod.fst (nw_so s2 (by omega))) ?_
  have s3 : mm_S (mm_sR (mm_nw M2 8 12) 25 2 (some (mm_Z M2))) 25 = (1, 0) := nw_so s2 (by omega)
  have z3 : mm_Z (mm_sR (mm_nw M2 8 12) 25 2 (some (mm_Z M2))) = 29 := by
    show mm_Z M2 + 1 = _
    omega
  generalize hM3 : mm_sR (mm_nw M2 8 12) 25 2 (some (mm_Z M2)) = M3 at s3 z3 ⊢
  refine am_aload_n fx dX1_init_28 rfl ?_
  refine am_bipush (v := (nI 13)) fx dX1_init_29 (by decide) ?_
  refine am_bipush (v := (nI 24)) fx dX1_init_31 (by decide) ?_
  refine am_mna fx dX1_init_33 klX1_21 kw_aint rfl rfl (by decide) (by decide) (by decide) (by decide) ?_
  refine am_putFR fx hnm dX1_init_37 fgX1_23 (by decide) (by decide) rfl rfl rfl (congrArg Prod.fst (gr_so s3 (by omega))) ?_
  have s4 : mm_S (mm_sR (mm_gr M3 13 24) 25 3 (some (mm_Z M3))) 25 = (1, 0) := gr_so s3 (by omega)
  have z4 : mm_Z (mm_sR (mm_gr M3 13 24) 25 3 (some (mm_Z M3))) = 43 := by
    show mm_Z M3 + 1 + 13 = _
    omega
  generalize hM4 : mm_sR (mm_gr M3 13 24) 25 3 (some (mm_Z M3)) = M4 at s4 z4 ⊢
  refine am_aload_n fx dX1_init_40 rfl ?_
  refine am_iconst (v := 0) fx dX1_init_41 (by decide) ?_
  refine am_putI fx dX1_init_42 fkX1_26 (by decide) (by decide) rfl rfl (congrArg Prod.fst s4) ?_
  have s5 : mm_S (mm_sI M4 25 4 0) 25 = (1, 0) := s4
  have z5 : mm_Z (mm_sI M4 25 4 0) = 43 := z4
  generalize hM5 : mm_sI M4 25 4 0 = M5 at s5 z5 ⊢
  refine am_aload_n fx dX1_init_45 rfl ?_
  refine am_iconst (v := 0) fx dX1_init_46 (by decide) ?_
  refine am_putI fx dX1_init_47 fkX1_30 (by decide) (by decide) rfl rfl (congrArg Prod.fst s5) ?_
  have s6 : mm_S (mm_sI M5 25 5 0) 25 = (1, 0) := s5
  have z6 : mm_Z (mm_sI M5 25 5 0) = 43 := z5
  generalize hM6 : mm_sI M5 25 5 0 = M6 at s6 z6 ⊢
  refine am_aload_n fx dX1_init_50 rfl ?_
  refine am_iconst (v := 0) fx dX1_init_51 (by decide) ?_
  refine am_putI fx dX1_init_52 fkX1_33 (by decide) (by decide) rfl rfl (congrArg Prod.fst s6) ?_
  have s7 : mm_S (mm_sI M6 25 6 0) 25 = (1, 0) := s6
  have z7 : mm_Z (mm_sI M6 25 6 0) = 43 := z6
  generalize hM7 : mm_sI M6 25 6 0 = M7 at s7 z7 ⊢
  have e9 : M7 = xiM1 μ := by rw [← hM7, ← hM6, ← hM5, ← hM4, ← hM3, ← hM2, ← hM1]
  refine am_widen (k := (rmX1_init).cells) (n := (rmX1_init).slots) (by decide) (by decide) ?_
  exact am_vret fx dX1_init_55 ⟨rfl, by rw [e9]; exact xi1_all hz ho⟩
abbrev xiM4 (μ : am_M) : am_M := (mm_sI (mm_sI (mm_sI (mm_sI (mm_sI (mm_sR (mm_nw (mm_sR (mm_nw μ 8 12) 43 0 (some (mm_Z μ))) 8 12) 43 1 (some (mm_Z (mm_sR (mm_nw μ 8 12) 43 0 (some (mm_Z μ)))))) 43 2 0) 43 3 1) 43 4 (-1)) 43 5 (-1)) 43 6 0)
set_option maxHeartbeats 1000000 in
theorem xi4_all {μ : am_M} (hz : mm_Z μ = 44) (ho : mm_S μ 43 = (4, 0)) : Kp2 μ (xiM4 μ) 43 ∧ mm_S (xiM4 μ) 43 = (4, 0) ∧ mm_S (xiM4 μ) 44 = (8, 12) ∧ mm_S (xiM4 μ) 45 = (8, 12) ∧ mm_R (xiM4 μ) 43 0 = some 44 ∧ mm_R (xiM4 μ) 43 1 = some 45 ∧ mm_Z (xiM4 μ) = 46 := by
  refine ⟨⟨fun a ha => ?_, fun a k ha => ?_, fun a k ha => ?_, fun a k ha => ?_⟩, ?_, ?_, ?_, ?_, ?_, ?_⟩
  all_goals
    simp only [mS_sI, mS_sL, mS_sR, mI_sL, mI_sR, mL_sI, mL_sR, mR_sI, mR_sL, mZ_sI, mZ_sL, mZ_sR, mI_sI, mR_sR, mS_nw, mI_nw, mL_nw, mR_nw, mZ_nw, mS_gr, mI_gr, mL_gr, mR_gr, mZ_gr, mI_fI, mL_fI, mS_fI, mR_fI, mZ_fI, mL_sL, hz]
    repeat (first | rw [if_neg (by omega)] | rw [if_pos (by omega)])
  all_goals
    first | assumption | (congr 1; omega) | rfl | (rw [if_pos trivial, if_pos hj]; try (congr 1; omega))
set_option maxRecDepth 100000 in
set_option maxHeartbeats 1000000 in
theorem ct_X4_init {E : am_E} {μ : am_M} (hz : mm_Z μ = 44) (ho : mm_S μ 43 = (4, 0)) : am_Ct E yX4_init cX4_init 1 none rmX4_init [.ref 43] μ (fun v μ' => v = none ∧ Kp2 μ μ' 43 ∧ mm_S μ' 43 = (4, 0) ∧ mm_S μ' 44 = (8, 12) ∧ mm_S μ' 45 = (8, 12) ∧ mm_R μ' 43 0 = some 44 ∧ mm_R μ' 43 1 = some 45 ∧ mm_Z μ' = 46) := by
  refine am_Ct.of (ls := [some (.ref 43)]) (by decide) (Nat.le_of_ble_eq_true rfl) rfl (fun C fx hnm => ?_)
  refine am_aload_n fx dX4_init_0 rfl ?_
  refine am_objInit fx dX4_init_1 moX4_3 kw_oi kw_oc ⟨by decide, Nat.le_of_ble_eq_true rfl⟩ ?_
  refine am_aload_n fx dX4_init_4 rfl ?_
  refine am_bipush (v := (nI 12)) fx dX4_init_5 (by decide) ?_
  refine am_newarr fx dX4_init_7 (Or.inl ⟨rfl, rfl⟩) kw_aint rfl (by decide) (by decide) (by decide) ?_
  refine am_putFR fx hnm dX4_init_9 fgX4_9 (by decide) (by decide) rfl rfl rfl (congrArg Prod.fst (nw_so ho (by omega))) ?_
  have s1 : mm_S (mm_sR (mm_nw μ 8 12) 43 0 (some (mm_Z μ))) 43 = (4, 0) := nw_so ho (by omega)
  have z1 : mm_Z (mm_sR (mm_nw μ 8 12) 43 0 (some (mm_Z μ))) = 45 := by
    show mm_Z μ + 1 = _
    omega
  generalize hM1 : mm_sR (mm_nw μ 8 12) 43 0 (some (mm_Z μ)) = M1 at s1 z1 ⊢
  refine am_aload_n fx dX4_init_12 rfl ?_
  refine am_bipush (v := (nI 12)) fx dX4_init_13 (by decide) ?_
  refine am_newarr fx dX4_init_15 (Or.inl ⟨rfl, rfl⟩) kw_aint rfl (by decide) (by decide) (by decide) ?_
  refine am_putFR fx hnm dX4_init_17 fgX4_15 (by decide) (by decide) rfl rfl rfl (congrArg Prod.fst (nw_so s1 (by omega))) ?_
  have s2 : mm_S (mm_sR (mm_nw M1 8 12) 43 1 (some (mm_Z M1))) 43 = (4, 0) := nw_so s1 (by omega)
  have z2 : mm_Z (mm_sR (mm_nw M1 8 12) 43 1 (some (mm_Z M1))) = 46 := by
    show mm_Z M1 + 1 = _
    omega
  generalize hM2 : mm_sR (mm_nw M1 8 12) 43 1 (some (mm_Z M1)) = M2 at s2 z2 ⊢
  refine am_aload_n fx dX4_init_20 rfl ?_
  refine am_iconst (v := 0) fx dX4_init_21 (by decide) ?_
  refine am_putI fx dX4_init_22 fkX4_18 (by decide) (by decide) rfl rfl (congrArg Prod.fst s2) ?_
  have s3 : mm_S (mm_sI M2 43 2 0) 43 = (4, 0) := s2
  have z3 : mm_Z (mm_sI M2 43 2 0) = 46 := z2
  generalize hM3 : mm_sI M2 43 2 0 = M3 at s3 z3 ⊢
  refine am_aload_n fx dX4_init_25 rfl ?_
  refine am_iconst (v := 1) fx dX4_init_26 (by decide) ?_
  refine am_putI fx dX4_init_27 fkX4_22 (by decide) (by decide) rfl rfl (congrArg Prod.fst s3) ?_
  have s4 : mm_S (mm_sI M3 43 3 1) 43 = (4, 0) := s3
  have z4 : mm_Z (mm_sI M3 43 3 1) = 46 := z3
  generalize hM4 : mm_sI M3 43 3 1 = M4 at s4 z4 ⊢
  refine am_aload_n fx dX4_init_30 rfl ?_
  refine am_iconst (v := (-1)) fx dX4_init_31 (by decide) ?_
  refine am_putI fx dX4_init_32 fkX4_25 (by decide) (by decide) rfl rfl (congrArg Prod.fst s4) ?_
  have s5 : mm_S (mm_sI M4 43 4 (-1)) 43 = (4, 0) := s4
  have z5 : mm_Z (mm_sI M4 43 4 (-1)) = 46 := z4
  generalize hM5 : mm_sI M4 43 4 (-1) = M5 at s5 z5 ⊢
  refine am_aload_n fx dX4_init_35 rfl ?_
  refine am_iconst (v := (-1)) fx dX4_init_36 (by decide) ?_
  refine am_putI fx dX4_init_37 fkX4_28 (by decide) (by decide) rfl rfl (congrArg Prod.fst s5) ?_
  have s6 : mm_S (mm_sI M5 43 5 (-1)) 43 = (4, 0) := s5
  have z6 : mm_Z (mm_sI M5 43 5 (-1)) = 46 := z5
  generalize hM6 : mm_sI M5 43 5 (-1) = M6 at s6 z6 ⊢
  refine am_aload_n fx dX4_init_40 rfl ?_
  refine am_iconst (v := 0) fx dX4_init_41 (by decide) ?_
  refine am_putI fx dX4_init_42 fkX4_31 (by decide) (by decide) rfl rfl (congrArg Prod.fst s6) ?_
  have s7 : mm_S (mm_sI M6 43 6 0) 43 = (4, 0) := s6
  have z7 : mm_Z (mm_sI M6 43 6 0) = 46 := z6
  generalize hM7 : mm_sI M6 43 6 0 = M7 at s7 z7 ⊢
  have e9 : M7 = xiM4 μ := by rw [← hM7, ← hM6, ← hM5, ← hM4, ← hM3, ← hM2, ← hM1]
  refine am_widen (k := (rmX4_init).cells) (n := (rmX4_init).slots) (by decide) (by decide) ?_
  exact am_vret fx dX4_init_45 ⟨rfl, by rw [e9]; exact xi4_all hz ho⟩
abbrev xiM7 (μ : am_M) : am_M := (mm_sR (mm_nw (mm_sR (mm_nw (mm_sR (mm_nw (mm_sR (mm_nw (mm_sR (mm_nw (mm_sR (mm_nw (mm_sI (mm_sR (mm_nw (mm_sR (mm_nw (mm_sR (mm_nw μ 8 48) 46 3 (some (mm_Z μ))) 10 24) 46 4 (some (mm_Z (mm_sR (mm_nw μ 8 48) 46 3 (some (mm_Z μ)))))) 8 288) 46 5 (some (mm_Z (mm_sR (mm_nw (mm_sR (mm_nw μ 8 48) 46 3 (some (mm_Z μ))) 10 24) 46 4 (some (mm_Z (mm_sR (mm_nw μ 8 48) 46 3 (some (mm_Z μ))))))))) 46 6 (-1)) 8 24) 46 14 (some (mm_Z (mm_sI (mm_sR (mm_nw (mm_sR (mm_nw (mm_sR (mm_nw μ 8 48) 46 3 (some (mm_Z μ))) 10 24) 46 4 (some (mm_Z (mm_sR (mm_nw μ 8 48) 46 3 (some (mm_Z μ)))))) 8 288) 46 5 (some (mm_Z (mm_sR (mm_nw (mm_sR (mm_nw μ 8 48) 46 3 (some (mm_Z μ))) 10 24) 46 4 (some (mm_Z (mm_sR (mm_nw μ 8 48) 46 3 (some (mm_Z μ))))))))) 46 6 (-1))))) 8 12) 46 19 (some (mm_Z (mm_sR (mm_nw (mm_sI (mm_sR (mm_nw (mm_sR (mm_nw (mm_sR (mm_nw μ 8 48) 46 3 (some (mm_Z μ))) 10 24) 46 4 (some (mm_Z (mm_sR (mm_nw μ 8 48) 46 3 (some (mm_Z μ)))))) 8 288) 46 5 (some (mm_Z (mm_sR (mm_nw (mm_sR (mm_nw μ 8 48) 46 3 (some (mm_Z μ))) 10 24) 46 4 (some (mm_Z (mm_sR (mm_nw μ 8 48) 46 3 (some (mm_Z μ))))))))) 46 6 (-1)) 8 24) 46 14 (some (mm_Z (mm_sI (mm_sR (mm_nw (mm_sR (mm_nw (mm_sR (mm_nw μ 8 48) 46 3 (some (mm_Z μ))) 10 24) 46 4 (some (mm_Z (mm_sR (mm_nw μ 8 48) 46 3 (some (mm_Z μ)))))) 8 288) 46 5 (some (mm_Z (mm_sR (mm_nw (mm_sR (mm_nw μ 8 48) 46 3 (some (mm_Z μ))) 10 24) 46 4 (some (mm_Z (mm_sR (mm_nw μ 8 48) 46 3 (some (mm_Z μ))))))))) 46 6 (-1)))))))) 8 12) 46 20 (some (mm_Z (mm_sR (mm_nw (mm_sR (mm_nw (mm_sI (mm_sR (mm_nw (mm_sR (mm_nw (mm_sR (mm_nw μ 8 48) 46 3 (some (mm_Z μ))) 10 24) 46 4 (some (mm_Z (mm_sR (mm_nw μ 8 48) 46 3 (some (mm_Z μ)))))) 8 288) 46 5 (some (mm_Z (mm_sR (mm_nw (mm_sR (mm_nw μ 8 48) 46 3 (some (mm_Z μ))) 10 24) 46 4 (some (mm_Z (mm_sR (mm_nw μ 8 48) 46 3 (some (mm_Z μ))))))))) 46 6 (-1)) 8 24) 46 14 (some (mm_Z (mm_sI (mm_sR (mm_nw (mm_sR (mm_nw (mm_sR (mm_nw μ 8 48) 46 3 (some (mm_Z μ))) 10 24) 46 4 (some (mm_Z (mm_sR (mm_nw μ 8 48) 46 3 (some (mm_Z μ)))))) 8 288) 46 5 (some (mm_Z (mm_sR (mm_nw (mm_sR (mm_nw μ 8 48) 46 3 (some (mm_Z μ))) 10 24) 46 4 (some (mm_Z (mm_sR (mm_nw μ 8 48) 46 3 (some (mm_Z μ))))))))) 46 6 (-1))))) 8 12) 46 19 (some (mm_Z (mm_sR (mm_nw (mm_sI (mm_sR (mm_nw (mm_sR (mm_nw (mm_sR (mm_nw μ 8 48) 46 3 (some (mm_Z μ))) 10 24) 46 4 (some (mm_Z (mm_sR (mm_nw μ 8 48) 46 3 (some (mm_Z μ)))))) 8 288) 46 5 (some (mm_Z (mm_sR (mm_nw (mm_sR (mm_nw μ 8 48) 46 3 (some (mm_Z μ))) 10 24) 46 4 (some (mm_Z (mm_sR (mm_nw μ 8 48) 46 3 (some (mm_Z μ))))))))) 46 6 (-1)) 8 24) 46 14 (some (mm_Z (mm_sI (mm_sR (mm_nw (mm_sR (mm_nw (mm_sR (mm_nw μ 8 48) 46 3 (some (mm_Z μ))) 10 24) 46 4 (some (mm_Z (mm_sR (mm_nw μ 8 48) 46 3 (some (mm_Z μ)))))) 8 288) 46 5 (some (mm_Z (mm_sR (mm_nw (mm_sR (mm_nw μ 8 48) 46 3 (some (mm_Z μ))) 10 24) 46 4 (some (mm_Z (mm_sR (mm_nw μ 8 48) 46 3 (some (mm_Z μ))))))))) 46 6 (-1))))))))))) 8 24) 46 23 (some (mm_Z (mm_sR (mm_nw (mm_sR (mm_nw (mm_sR (mm_nw (mm_sI (mm_sR (mm_nw (mm_sR (mm_nw (mm_sR (mm_nw μ 8 48) 46 3 (some (mm_Z μ))) 10 24) 46 4 (some (mm_Z (mm_sR (mm_nw μ 8 48) 46 3 (some (mm_Z μ)))))) 8 288) 46 5 (some (mm_Z (mm_sR (mm_nw (mm_sR (mm_nw μ 8 48) 46 3 (some (mm_Z μ))) 10 24) 46 4 (some (mm_Z (mm_sR (mm_nw μ 8 48) 46 3 (some (mm_Z μ))))))))) 46 6 (-1)) 8 24) 46 14 (some (mm_Z (mm_sI (mm_sR (mm_nw (mm_sR (mm_nw (mm_sR (mm_nw μ 8 48) 46 3 (some (mm_Z μ))) 10 24) 46 4 (some (mm_Z (mm_sR (mm_nw μ 8 48) 46 3 (some (mm_Z μ)))))) 8 288) 46 5 (some (mm_Z (mm_sR (mm_nw (mm_sR (mm_nw μ 8 48) 46 3 (some (mm_Z μ))) 10 24) 46 4 (some (mm_Z (mm_sR (mm_nw μ 8 48) 46 3 (some (mm_Z μ))))))))) 46 6 (-1))))) 8 12) 46 19 (some (mm_Z (mm_sR (mm_nw (mm_sI (mm_sR (mm_nw (mm_sR (mm_nw (mm_sR (mm_nw μ 8 48) 46 3 (some (mm_Z μ))) 10 24) 46 4 (some (mm_Z (mm_sR (mm_nw μ 8 48) 46 3 (some (mm_Z μ)))))) 8 288) 46 5 (some (mm_Z (mm_sR (mm_nw (mm_sR (mm_nw μ 8 48) 46 3 (some (mm_Z μ))) 10 24) 46 4 (some (mm_Z (mm_sR (mm_nw μ 8 48) 46 3 (some (mm_Z μ))))))))) 46 6 (-1)) 8 24) 46 14 (some (mm_Z (mm_sI (mm_sR (mm_nw (mm_sR (mm_nw (mm_sR (mm_nw μ 8 48) 46 3 (some (mm_Z μ))) 10 24) 46 4 (some (mm_Z (mm_sR (mm_nw μ 8 48) 46 3 (some (mm_Z μ)))))) 8 288) 46 5 (some (mm_Z (mm_sR (mm_nw (mm_sR (mm_nw μ 8 48) 46 3 (some (mm_Z μ))) 10 24) 46 4 (some (mm_Z (mm_sR (mm_nw μ 8 48) 46 3 (some (mm_Z μ))))))))) 46 6 (-1)))))))) 8 12) 46 20 (some (mm_Z (mm_sR (mm_nw (mm_sR (mm_nw (mm_sI (mm_sR (mm_nw (mm_sR (mm_nw (mm_sR (mm_nw μ 8 48) 46 3 (some (mm_Z μ))) 10 24) 46 4 (some (mm_Z (mm_sR (mm_nw μ 8 48) 46 3 (some (mm_Z μ)))))) 8 288) 46 5 (some (mm_Z (mm_sR (mm_nw (mm_sR (mm_nw μ 8 48) 46 3 (some (mm_Z μ))) 10 24) 46 4 (some (mm_Z (mm_sR (mm_nw μ 8 48) 46 3 (some (mm_Z μ))))))))) 46 6 (-1)) 8 24) 46 14 (some (mm_Z (mm_sI (mm_sR (mm_nw (mm_sR (mm_nw (mm_sR (mm_nw μ 8 48) 46 3 (some (mm_Z μ))) 10 24) 46 4 (some (mm_Z (mm_sR (mm_nw μ 8 48) 46 3 (some (mm_Z μ)))))) 8 288) 46 5 (some (mm_Z (mm_sR (mm_nw (mm_sR (mm_nw μ 8 48) 46 3 (some (mm_Z μ))) 10 24) 46 4 (some (mm_Z (mm_sR (mm_nw μ 8 48) 46 3 (some (mm_Z μ))))))))) 46 6 (-1))))) 8 12) 46 19 (some (mm_Z (mm_sR (mm_nw (mm_sI (mm_sR (mm_nw (mm_sR (mm_nw (mm_sR (mm_nw μ 8 48) 46 3 (some (mm_Z μ))) 10 24) 46 4 (some (mm_Z (mm_sR (mm_nw μ 8 48) 46 3 (some (mm_Z μ)))))) 8 288) 46 5 (some (mm_Z (mm_sR (mm_nw (mm_sR (mm_nw μ 8 48) 46 3 (some (mm_Z μ))) 10 24) 46 4 (some (mm_Z (mm_sR (mm_nw μ 8 48) 46 3 (some (mm_Z μ))))))))) 46 6 (-1)) 8 24) 46 14 (some (mm_Z (mm_sI (mm_sR (mm_nw (mm_sR (mm_nw (mm_sR (mm_nw μ 8 48) 46 3 (some (mm_Z μ))) 10 24) 46 4 (some (mm_Z (mm_sR (mm_nw μ 8 48) 46 3 (some (mm_Z μ)))))) 8 288) 46 5 (some (mm_Z (mm_sR (mm_nw (mm_sR (mm_nw μ 8 48) 46 3 (some (mm_Z μ))) 10 24) 46 4 (some (mm_Z (mm_sR (mm_nw μ 8 48) 46 3 (some (mm_Z μ))))))))) 46 6 (-1)))))))))))))) 10 24) 46 24 (some (mm_Z (mm_sR (mm_nw (mm_sR (mm_nw (mm_sR (mm_nw (mm_sR (mm_nw (mm_sI (mm_sR (mm_nw (mm_sR (mm_nw (mm_sR (mm_nw μ 8 48) 46 3 (some (mm_Z μ))) 10 24) 46 4 (some (mm_Z (mm_sR (mm_nw μ 8 48) 46 3 (some (mm_Z μ)))))) 8 288) 46 5 (some (mm_Z (mm_sR (mm_nw (mm_sR (mm_nw μ 8 48) 46 3 (some (mm_Z μ))) 10 24) 46 4 (some (mm_Z (mm_sR (mm_nw μ 8 48) 46 3 (some (mm_Z μ))))))))) 46 6 (-1)) 8 24) 46 14 (some (mm_Z (mm_sI (mm_sR (mm_nw (mm_sR (mm_nw (mm_sR (mm_nw μ 8 48) 46 3 (some (mm_Z μ))) 10 24) 46 4 (some (mm_Z (mm_sR (mm_nw μ 8 48) 46 3 (some (mm_Z μ)))))) 8 288) 46 5 (some (mm_Z (mm_sR (mm_nw (mm_sR (mm_nw μ 8 48) 46 3 (some (mm_Z μ))) 10 24) 46 4 (some (mm_Z (mm_sR (mm_nw μ 8 48) 46 3 (some (mm_Z μ))))))))) 46 6 (-1))))) 8 12) 46 19 (some (mm_Z (mm_sR (mm_nw (mm_sI (mm_sR (mm_nw (mm_sR (mm_nw (mm_sR (mm_nw μ 8 48) 46 3 (some (mm_Z μ))) 10 24) 46 4 (some (mm_Z (mm_sR (mm_nw μ 8 48) 46 3 (some (mm_Z μ)))))) 8 288) 46 5 (some (mm_Z (mm_sR (mm_nw (mm_sR (mm_nw μ 8 48) 46 3 (some (mm_Z μ))) 10 24) 46 4 (some (mm_Z (mm_sR (mm_nw μ 8 48) 46 3 (some (mm_Z μ))))))))) 46 6 (-1)) 8 24) 46 14 (some (mm_Z (mm_sI (mm_sR (mm_nw (mm_sR (mm_nw (mm_sR (mm_nw μ 8 48) 46 3 (some (mm_Z μ))) 10 24) 46 4 (some (mm_Z (mm_sR (mm_nw μ 8 48) 46 3 (some (mm_Z μ)))))) 8 288) 46 5 (some (mm_Z (mm_sR (mm_nw (mm_sR (mm_nw μ 8 48) 46 3 (some (mm_Z μ))) 10 24) 46 4 (some (mm_Z (mm_sR (mm_nw μ 8 48) 46 3 (some (mm_Z μ))))))))) 46 6 (-1)))))))) 8 12) 46 20 (some (mm_Z (mm_sR (mm_nw (mm_sR (mm_nw (mm_sI (mm_sR (mm_nw (mm_sR (mm_nw (mm_sR (mm_nw μ 8 48) 46 3 (some (mm_Z μ))) 10 24) 46 4 (some (mm_Z (mm_sR (mm_nw μ 8 48) 46 3 (some (mm_Z μ)))))) 8 288) 46 5 (some (mm_Z (mm_sR (mm_nw (mm_sR (mm_nw μ 8 48) 46 3 (some (mm_Z μ))) 10 24) 46 4 (some (mm_Z (mm_sR (mm_nw μ 8 48) 46 3 (some (mm_Z μ))))))))) 46 6 (-1)) 8 24) 46 14 (some (mm_Z (mm_sI (mm_sR (mm_nw (mm_sR (mm_nw (mm_sR (mm_nw μ 8 48) 46 3 (some (mm_Z μ))) 10 24) 46 4 (some (mm_Z (mm_sR (mm_nw μ 8 48) 46 3 (some (mm_Z μ)))))) 8 288) 46 5 (some (mm_Z (mm_sR (mm_nw (mm_sR (mm_nw μ 8 48) 46 3 (some (mm_Z μ))) 10 24) 46 4 (some (mm_Z (mm_sR (mm_nw μ 8 48) 46 3 (some (mm_Z μ))))))))) 46 6 (-1))))) 8 12) 46 19 (some (mm_Z (mm_sR (mm_nw (mm_sI (mm_sR (mm_nw (mm_sR (mm_nw (mm_sR (mm_nw μ 8 48) 46 3 (some (mm_Z μ))) 10 24) 46 4 (some (mm_Z (mm_sR (mm_nw μ 8 48) 46 3 (some (mm_Z μ)))))) 8 288) 46 5 (some (mm_Z (mm_sR (mm_nw (mm_sR (mm_nw μ 8 48) 46 3 (some (mm_Z μ))) 10 24) 46 4 (some (mm_Z (mm_sR (mm_nw μ 8 48) 46 3 (some (mm_Z μ))))))))) 46 6 (-1)) 8 24) 46 14 (some (mm_Z (mm_sI (mm_sR (mm_nw (mm_sR (mm_nw (mm_sR (mm_nw μ 8 48) 46 3 (some (mm_Z μ))) 10 24) 46 4 (some (mm_Z (mm_sR (mm_nw μ 8 48) 46 3 (some (mm_Z μ)))))) 8 288) 46 5 (some (mm_Z (mm_sR (mm_nw (mm_sR (mm_nw μ 8 48) 46 3 (some (mm_Z μ))) 10 24) 46 4 (some (mm_Z (mm_sR (mm_nw μ 8 48) 46 3 (some (mm_Z μ))))))))) 46 6 (-1))))))))))) 8 24) 46 23 (some (mm_Z (mm_sR (mm_nw (mm_sR (mm_nw (mm_sR (mm_nw (mm_sI (mm_sR (mm_nw (mm_sR (mm_nw (mm_sR (mm_nw μ 8 48) 46 3 (some (mm_Z μ))) 10 24) 46 4 (some (mm_Z (mm_sR (mm_nw μ 8 48) 46 3 (some (mm_Z μ)))))) 8 288) 46 5 (some (mm_Z (mm_sR (mm_nw (mm_sR (mm_nw μ 8 48) 46 3 (some (mm_Z μ))) 10 24) 46 4 (some (mm_Z (mm_sR (mm_nw μ 8 48) 46 3 (some (mm_Z μ))))))))) 46 6 (-1)) 8 24) 46 14 (some (mm_Z (mm_sI (mm_sR (mm_nw (mm_sR (mm_nw (mm_sR (mm_nw μ 8 48) 46 3 (some (mm_Z μ))) 10 24) 46 4 (some (mm_Z (mm_sR (mm_nw μ 8 48) 46 3 (some (mm_Z μ)))))) 8 288) 46 5 (some (mm_Z (mm_sR (mm_nw (mm_sR (mm_nw μ 8 48) 46 3 (some (mm_Z μ))) 10 24) 46 4 (some (mm_Z (mm_sR (mm_nw μ 8 48) 46 3 (some (mm_Z μ))))))))) 46 6 (-1))))) 8 12) 46 19 (some (mm_Z (mm_sR (mm_nw (mm_sI (mm_sR (mm_nw (mm_sR (mm_nw (mm_sR (mm_nw μ 8 48) 46 3 (some (mm_Z μ))) 10 24) 46 4 (some (mm_Z (mm_sR (mm_nw μ 8 48) 46 3 (some (mm_Z μ)))))) 8 288) 46 5 (some (mm_Z (mm_sR (mm_nw (mm_sR (mm_nw μ 8 48) 46 3 (some (mm_Z μ))) 10 24) 46 4 (some (mm_Z (mm_sR (mm_nw μ 8 48) 46 3 (some (mm_Z μ))))))))) 46 6 (-1)) 8 24) 46 14 (some (mm_Z (mm_sI (mm_sR (mm_nw (mm_sR (mm_nw (mm_sR (mm_nw μ 8 48) 46 3 (some (mm_Z μ))) 10 24) 46 4 (some (mm_Z (mm_sR (mm_nw μ 8 48) 46 3 (some (mm_Z μ)))))) 8 288) 46 5 (some (mm_Z (mm_sR (mm_nw (mm_sR (mm_nw μ 8 48) 46 3 (some (mm_Z μ))) 10 24) 46 4 (some (mm_Z (mm_sR (mm_nw μ 8 48) 46 3 (some (mm_Z μ))))))))) 46 6 (-1)))))))) 8 12) 46 20 (some (mm_Z (mm_sR (mm_nw (mm_sR (mm_nw (mm_sI (mm_sR (mm_nw (mm_sR (mm_nw (mm_sR (mm_nw μ 8 48) 46 3 (some (mm_Z μ))) 10 24) 46 4 (some (mm_Z (mm_sR (mm_nw μ 8 48) 46 3 (some (mm_Z μ)))))) 8 288) 46 5 (some (mm_Z (mm_sR (mm_nw (mm_sR (mm_nw μ 8 48) 46 3 (some (mm_Z μ))) 10 24) 46 4 (some (mm_Z (mm_sR (mm_nw μ 8 48) 46 3 (some (mm_Z μ))))))))) 46 6 (-1)) 8 24) 46 14 (some (mm_Z (mm_sI (mm_sR (mm_nw (mm_sR (mm_nw (mm_sR (mm_nw μ 8 48) 46 3 (some (mm_Z μ))) 10 24) 46 4 (some (mm_Z (mm_sR (mm_nw μ 8 48) 46 3 (some (mm_Z μ)))))) 8 288) 46 5 (some (mm_Z (mm_sR (mm_nw (mm_sR (mm_nw μ 8 48) 46 3 (some (mm_Z μ))) 10 24) 46 4 (some (mm_Z (mm_sR (mm_nw μ 8 48) 46 3 (some (mm_Z μ))))))))) 46 6 (-1))))) 8 12) 46 19 (some (mm_Z (mm_sR (mm_nw (mm_sI (mm_sR (mm_nw (mm_sR (mm_nw (mm_sR (mm_nw μ 8 48) 46 3 (some (mm_Z μ))) 10 24) 46 4 (some (mm_Z (mm_sR (mm_nw μ 8 48) 46 3 (some (mm_Z μ)))))) 8 288) 46 5 (some (mm_Z (mm_sR (mm_nw (mm_sR (mm_nw μ 8 48) 46 3 (some (mm_Z μ))) 10 24) 46 4 (some (mm_Z (mm_sR (mm_nw μ 8 48) 46 3 (some (mm_Z μ))))))))) 46 6 (-1)) 8 24) 46 14 (some (mm_Z (mm_sI (mm_sR (mm_nw (mm_sR (mm_nw (mm_sR (mm_nw μ 8 48) 46 3 (some (mm_Z μ))) 10 24) 46 4 (some (mm_Z (mm_sR (mm_nw μ 8 48) 46 3 (some (mm_Z μ)))))) 8 288) 46 5 (some (mm_Z (mm_sR (mm_nw (mm_sR (mm_nw μ 8 48) 46 3 (some (mm_Z μ))) 10 24) 46 4 (some (mm_Z (mm_sR (mm_nw μ 8 48) 46 3 (some (mm_Z μ))))))))) 46 6 (-1))))))))))))))))) 9 1300) 46 25 (some (mm_Z (mm_sR (mm_nw (mm_sR (mm_nw (mm_sR (mm_nw (mm_sR (mm_nw (mm_sR (mm_nw (mm_sI (mm_sR (mm_nw (mm_sR (mm_nw (mm_sR (mm_nw μ 8 48) 46 3 (some (mm_Z μ))) 10 24) 46 4 (some (mm_Z (mm_sR (mm_nw μ 8 48) 46 3 (some (mm_Z μ)))))) 8 288) 46 5 (some (mm_Z (mm_sR (mm_nw (mm_sR (mm_nw μ 8 48) 46 3 (some (mm_Z μ))) 10 24) 46 4 (some (mm_Z (mm_sR (mm_nw μ 8 48) 46 3 (some (mm_Z μ))))))))) 46 6 (-1)) 8 24) 46 14 (some (mm_Z (mm_sI (mm_sR (mm_nw (mm_sR (mm_nw (mm_sR (mm_nw μ 8 48) 46 3 (some (mm_Z μ))) 10 24) 46 4 (some (mm_Z (mm_sR (mm_nw μ 8 48) 46 3 (some (mm_Z μ)))))) 8 288) 46 5 (some (mm_Z (mm_sR (mm_nw (mm_sR (mm_nw μ 8 48) 46 3 (some (mm_Z μ))) 10 24) 46 4 (some (mm_Z (mm_sR (mm_nw μ 8 48) 46 3 (some (mm_Z μ))))))))) 46 6 (-1))))) 8 12) 46 19 (some (mm_Z (mm_sR (mm_nw (mm_sI (mm_sR (mm_nw (mm_sR (mm_nw (mm_sR (mm_nw μ 8 48) 46 3 (some (mm_Z μ))) 10 24) 46 4 (some (mm_Z (mm_sR (mm_nw μ 8 48) 46 3 (some (mm_Z μ)))))) 8 288) 46 5 (some (mm_Z (mm_sR (mm_nw (mm_sR (mm_nw μ 8 48) 46 3 (some (mm_Z μ))) 10 24) 46 4 (some (mm_Z (mm_sR (mm_nw μ 8 48) 46 3 (some (mm_Z μ))))))))) 46 6 (-1)) 8 24) 46 14 (some (mm_Z (mm_sI (mm_sR (mm_nw (mm_sR (mm_nw (mm_sR (mm_nw μ 8 48) 46 3 (some (mm_Z μ))) 10 24) 46 4 (some (mm_Z (mm_sR (mm_nw μ 8 48) 46 3 (some (mm_Z μ)))))) 8 288) 46 5 (some (mm_Z (mm_sR (mm_nw (mm_sR (mm_nw μ 8 48) 46 3 (some (mm_Z μ))) 10 24) 46 4 (some (mm_Z (mm_sR (mm_nw μ 8 48) 46 3 (some (mm_Z μ))))))))) 46 6 (-1)))))))) 8 12) 46 20 (some (mm_Z (mm_sR (mm_nw (mm_sR (mm_nw (mm_sI (mm_sR (mm_nw (mm_sR (mm_nw (mm_sR (mm_nw μ 8 48) 46 3 (some (mm_Z μ))) 10 24) 46 4 (some (mm_Z (mm_sR (mm_nw μ 8 48) 46 3 (some (mm_Z μ)))))) 8 288) 46 5 (some (mm_Z (mm_sR (mm_nw (mm_sR (mm_nw μ 8 48) 46 3 (some (mm_Z μ))) 10 24) 46 4 (some (mm_Z (mm_sR (mm_nw μ 8 48) 46 3 (some (mm_Z μ))))))))) 46 6 (-1)) 8 24) 46 14 (some (mm_Z (mm_sI (mm_sR (mm_nw (mm_sR (mm_nw (mm_sR (mm_nw μ 8 48) 46 3 (some (mm_Z μ))) 10 24) 46 4 (some (mm_Z (mm_sR (mm_nw μ 8 48) 46 3 (some (mm_Z μ)))))) 8 288) 46 5 (some (mm_Z (mm_sR (mm_nw (mm_sR (mm_nw μ 8 48) 46 3 (some (mm_Z μ))) 10 24) 46 4 (some (mm_Z (mm_sR (mm_nw μ 8 48) 46 3 (some (mm_Z μ))))))))) 46 6 (-1))))) 8 12) 46 19 (some (mm_Z (mm_sR (mm_nw (mm_sI (mm_sR (mm_nw (mm_sR (mm_nw (mm_sR (mm_nw μ 8 48) 46 3 (some (mm_Z μ))) 10 24) 46 4 (some (mm_Z (mm_sR (mm_nw μ 8 48) 46 3 (some (mm_Z μ)))))) 8 288) 46 5 (some (mm_Z (mm_sR (mm_nw (mm_sR (mm_nw μ 8 48) 46 3 (some (mm_Z μ))) 10 24) 46 4 (some (mm_Z (mm_sR (mm_nw μ 8 48) 46 3 (some (mm_Z μ))))))))) 46 6 (-1)) 8 24) 46 14 (some (mm_Z (mm_sI (mm_sR (mm_nw (mm_sR (mm_nw (mm_sR (mm_nw μ 8 48) 46 3 (some (mm_Z μ))) 10 24) 46 4 (some (mm_Z (mm_sR (mm_nw μ 8 48) 46 3 (some (mm_Z μ)))))) 8 288) 46 5 (some (mm_Z (mm_sR (mm_nw (mm_sR (mm_nw μ 8 48) 46 3 (some (mm_Z μ))) 10 24) 46 4 (some (mm_Z (mm_sR (mm_nw μ 8 48) 46 3 (some (mm_Z μ))))))))) 46 6 (-1))))))))))) 8 24) 46 23 (some (mm_Z (mm_sR (mm_nw (mm_sR (mm_nw (mm_sR (mm_nw (mm_sI (mm_sR (mm_nw (mm_sR (mm_nw (mm_sR (mm_nw μ 8 48) 46 3 (some (mm_Z μ))) 10 24) 46 4 (some (mm_Z (mm_sR (mm_nw μ 8 48) 46 3 (some (mm_Z μ)))))) 8 288) 46 5 (some (mm_Z (mm_sR (mm_nw (mm_sR (mm_nw μ 8 48) 46 3 (some (mm_Z μ))) 10 24) 46 4 (some (mm_Z (mm_sR (mm_nw μ 8 48) 46 3 (some (mm_Z μ))))))))) 46 6 (-1)) 8 24) 46 14 (some (mm_Z (mm_sI (mm_sR (mm_nw (mm_sR (mm_nw (mm_sR (mm_nw μ 8 48) 46 3 (some (mm_Z μ))) 10 24) 46 4 (some (mm_Z (mm_sR (mm_nw μ 8 48) 46 3 (some (mm_Z μ)))))) 8 288) 46 5 (some (mm_Z (mm_sR (mm_nw (mm_sR (mm_nw μ 8 48) 46 3 (some (mm_Z μ))) 10 24) 46 4 (some (mm_Z (mm_sR (mm_nw μ 8 48) 46 3 (some (mm_Z μ))))))))) 46 6 (-1))))) 8 12) 46 19 (some (mm_Z (mm_sR (mm_nw (mm_sI (mm_sR (mm_nw (mm_sR (mm_nw (mm_sR (mm_nw μ 8 48) 46 3 (some (mm_Z μ))) 10 24) 46 4 (some (mm_Z (mm_sR (mm_nw μ 8 48) 46 3 (some (mm_Z μ)))))) 8 288) 46 5 (some (mm_Z (mm_sR (mm_nw (mm_sR (mm_nw μ 8 48) 46 3 (some (mm_Z μ))) 10 24) 46 4 (some (mm_Z (mm_sR (mm_nw μ 8 48) 46 3 (some (mm_Z μ))))))))) 46 6 (-1)) 8 24) 46 14 (some (mm_Z (mm_sI (mm_sR (mm_nw (mm_sR (mm_nw (mm_sR (mm_nw μ 8 48) 46 3 (some (mm_Z μ))) 10 24) 46 4 (some (mm_Z (mm_sR (mm_nw μ 8 48) 46 3 (some (mm_Z μ)))))) 8 288) 46 5 (some (mm_Z (mm_sR (mm_nw (mm_sR (mm_nw μ 8 48) 46 3 (some (mm_Z μ))) 10 24) 46 4 (some (mm_Z (mm_sR (mm_nw μ 8 48) 46 3 (some (mm_Z μ))))))))) 46 6 (-1)))))))) 8 12) 46 20 (some (mm_Z (mm_sR (mm_nw (mm_sR (mm_nw (mm_sI (mm_sR (mm_nw (mm_sR (mm_nw (mm_sR (mm_nw μ 8 48) 46 3 (some (mm_Z μ))) 10 24) 46 4 (some (mm_Z (mm_sR (mm_nw μ 8 48) 46 3 (some (mm_Z μ)))))) 8 288) 46 5 (some (mm_Z (mm_sR (mm_nw (mm_sR (mm_nw μ 8 48) 46 3 (some (mm_Z μ))) 10 24) 46 4 (some (mm_Z (mm_sR (mm_nw μ 8 48) 46 3 (some (mm_Z μ))))))))) 46 6 (-1)) 8 24) 46 14 (some (mm_Z (mm_sI (mm_sR (mm_nw (mm_sR (mm_nw (mm_sR (mm_nw μ 8 48) 46 3 (some (mm_Z μ))) 10 24) 46 4 (some (mm_Z (mm_sR (mm_nw μ 8 48) 46 3 (some (mm_Z μ)))))) 8 288) 46 5 (some (mm_Z (mm_sR (mm_nw (mm_sR (mm_nw μ 8 48) 46 3 (some (mm_Z μ))) 10 24) 46 4 (some (mm_Z (mm_sR (mm_nw μ 8 48) 46 3 (some (mm_Z μ))))))))) 46 6 (-1))))) 8 12) 46 19 (some (mm_Z (mm_sR (mm_nw (mm_sI (mm_sR (mm_nw (mm_sR (mm_nw (mm_sR (mm_nw μ 8 48) 46 3 (some (mm_Z μ))) 10 24) 46 4 (some (mm_Z (mm_sR (mm_nw μ 8 48) 46 3 (some (mm_Z μ)))))) 8 288) 46 5 (some (mm_Z (mm_sR (mm_nw (mm_sR (mm_nw μ 8 48) 46 3 (some (mm_Z μ))) 10 24) 46 4 (some (mm_Z (mm_sR (mm_nw μ 8 48) 46 3 (some (mm_Z μ))))))))) 46 6 (-1)) 8 24) 46 14 (some (mm_Z (mm_sI (mm_sR (mm_nw (mm_sR (mm_nw (mm_sR (mm_nw μ 8 48) 46 3 (some (mm_Z μ))) 10 24) 46 4 (some (mm_Z (mm_sR (mm_nw μ 8 48) 46 3 (some (mm_Z μ)))))) 8 288) 46 5 (some (mm_Z (mm_sR (mm_nw (mm_sR (mm_nw μ 8 48) 46 3 (some (mm_Z μ))) 10 24) 46 4 (some (mm_Z (mm_sR (mm_nw μ 8 48) 46 3 (some (mm_Z μ))))))))) 46 6 (-1)))))))))))))) 10 24) 46 24 (some (mm_Z (mm_sR (mm_nw (mm_sR (mm_nw (mm_sR (mm_nw (mm_sR (mm_nw (mm_sI (mm_sR (mm_nw (mm_sR (mm_nw (mm_sR (mm_nw μ 8 48) 46 3 (some (mm_Z μ))) 10 24) 46 4 (some (mm_Z (mm_sR (mm_nw μ 8 48) 46 3 (some (mm_Z μ)))))) 8 288) 46 5 (some (mm_Z (mm_sR (mm_nw (mm_sR (mm_nw μ 8 48) 46 3 (some (mm_Z μ))) 10 24) 46 4 (some (mm_Z (mm_sR (mm_nw μ 8 48) 46 3 (some (mm_Z μ))))))))) 46 6 (-1)) 8 24) 46 14 (some (mm_Z (mm_sI (mm_sR (mm_nw (mm_sR (mm_nw (mm_sR (mm_nw μ 8 48) 46 3 (some (mm_Z μ))) 10 24) 46 4 (some (mm_Z (mm_sR (mm_nw μ 8 48) 46 3 (some (mm_Z μ)))))) 8 288) 46 5 (some (mm_Z (mm_sR (mm_nw (mm_sR (mm_nw μ 8 48) 46 3 (some (mm_Z μ))) 10 24) 46 4 (some (mm_Z (mm_sR (mm_nw μ 8 48) 46 3 (some (mm_Z μ))))))))) 46 6 (-1))))) 8 12) 46 19 (some (mm_Z (mm_sR (mm_nw (mm_sI (mm_sR (mm_nw (mm_sR (mm_nw (mm_sR (mm_nw μ 8 48) 46 3 (some (mm_Z μ))) 10 24) 46 4 (some (mm_Z (mm_sR (mm_nw μ 8 48) 46 3 (some (mm_Z μ)))))) 8 288) 46 5 (some (mm_Z (mm_sR (mm_nw (mm_sR (mm_nw μ 8 48) 46 3 (some (mm_Z μ))) 10 24) 46 4 (some (mm_Z (mm_sR (mm_nw μ 8 48) 46 3 (some (mm_Z μ))))))))) 46 6 (-1)) 8 24) 46 14 (some (mm_Z (mm_sI (mm_sR (mm_nw (mm_sR (mm_nw (mm_sR (mm_nw μ 8 48) 46 3 (some (mm_Z μ))) 10 24) 46 4 (some (mm_Z (mm_sR (mm_nw μ 8 48) 46 3 (some (mm_Z μ)))))) 8 288) 46 5 (some (mm_Z (mm_sR (mm_nw (mm_sR (mm_nw μ 8 48) 46 3 (some (mm_Z μ))) 10 24) 46 4 (some (mm_Z (mm_sR (mm_nw μ 8 48) 46 3 (some (mm_Z μ))))))))) 46 6 (-1)))))))) 8 12) 46 20 (some (mm_Z (mm_sR (mm_nw (mm_sR (mm_nw (mm_sI (mm_sR (mm_nw (mm_sR (mm_nw (mm_sR (mm_nw μ 8 48) 46 3 (some (mm_Z μ))) 10 24) 46 4 (some (mm_Z (mm_sR (mm_nw μ 8 48) 46 3 (some (mm_Z μ)))))) 8 288) 46 5 (some (mm_Z (mm_sR (mm_nw (mm_sR (mm_nw μ 8 48) 46 3 (some (mm_Z μ))) 10 24) 46 4 (some (mm_Z (mm_sR (mm_nw μ 8 48) 46 3 (some (mm_Z μ))))))))) 46 6 (-1)) 8 24) 46 14 (some (mm_Z (mm_sI (mm_sR (mm_nw (mm_sR (mm_nw (mm_sR (mm_nw μ 8 48) 46 3 (some (mm_Z μ))) 10 24) 46 4 (some (mm_Z (mm_sR (mm_nw μ 8 48) 46 3 (some (mm_Z μ)))))) 8 288) 46 5 (some (mm_Z (mm_sR (mm_nw (mm_sR (mm_nw μ 8 48) 46 3 (some (mm_Z μ))) 10 24) 46 4 (some (mm_Z (mm_sR (mm_nw μ 8 48) 46 3 (some (mm_Z μ))))))))) 46 6 (-1))))) 8 12) 46 19 (some (mm_Z (mm_sR (mm_nw (mm_sI (mm_sR (mm_nw (mm_sR (mm_nw (mm_sR (mm_nw μ 8 48) 46 3 (some (mm_Z μ))) 10 24) 46 4 (some (mm_Z (mm_sR (mm_nw μ 8 48) 46 3 (some (mm_Z μ)))))) 8 288) 46 5 (some (mm_Z (mm_sR (mm_nw (mm_sR (mm_nw μ 8 48) 46 3 (some (mm_Z μ))) 10 24) 46 4 (some (mm_Z (mm_sR (mm_nw μ 8 48) 46 3 (some (mm_Z μ))))))))) 46 6 (-1)) 8 24) 46 14 (some (mm_Z (mm_sI (mm_sR (mm_nw (mm_sR (mm_nw (mm_sR (mm_nw μ 8 48) 46 3 (some (mm_Z μ))) 10 24) 46 4 (some (mm_Z (mm_sR (mm_nw μ 8 48) 46 3 (some (mm_Z μ)))))) 8 288) 46 5 (some (mm_Z (mm_sR (mm_nw (mm_sR (mm_nw μ 8 48) 46 3 (some (mm_Z μ))) 10 24) 46 4 (some (mm_Z (mm_sR (mm_nw μ 8 48) 46 3 (some (mm_Z μ))))))))) 46 6 (-1))))))))))) 8 24) 46 23 (some (mm_Z (mm_sR (mm_nw (mm_sR (mm_nw (mm_sR (mm_nw (mm_sI (mm_sR (mm_nw (mm_sR (mm_nw (mm_sR (mm_nw μ 8 48) 46 3 (some (mm_Z μ))) 10 24) 46 4 (some (mm_Z (mm_sR (mm_nw μ 8 48) 46 3 (some (mm_Z μ)))))) 8 288) 46 5 (some (mm_Z (mm_sR (mm_nw (mm_sR (mm_nw μ 8 48) 46 3 (some (mm_Z μ))) 10 24) 46 4 (some (mm_Z (mm_sR (mm_nw μ 8 48) 46 3 (some (mm_Z μ))))))))) 46 6 (-1)) 8 24) 46 14 (some (mm_Z (mm_sI (mm_sR (mm_nw (mm_sR (mm_nw (mm_sR (mm_nw μ 8 48) 46 3 (some (mm_Z μ))) 10 24) 46 4 (some (mm_Z (mm_sR (mm_nw μ 8 48) 46 3 (some (mm_Z μ)))))) 8 288) 46 5 (some (mm_Z (mm_sR (mm_nw (mm_sR (mm_nw μ 8 48) 46 3 (some (mm_Z μ))) 10 24) 46 4 (some (mm_Z (mm_sR (mm_nw μ 8 48) 46 3 (some (mm_Z μ))))))))) 46 6 (-1))))) 8 12) 46 19 (some (mm_Z (mm_sR (mm_nw (mm_sI (mm_sR (mm_nw (mm_sR (mm_nw (mm_sR (mm_nw μ 8 48) 46 3 (some (mm_Z μ))) 10 24) 46 4 (some (mm_Z (mm_sR (mm_nw μ 8 48) 46 3 (some (mm_Z μ)))))) 8 288) 46 5 (some (mm_Z (mm_sR (mm_nw (mm_sR (mm_nw μ 8 48) 46 3 (some (mm_Z μ))) 10 24) 46 4 (some (mm_Z (mm_sR (mm_nw μ 8 48) 46 3 (some (mm_Z μ))))))))) 46 6 (-1)) 8 24) 46 14 (some (mm_Z (mm_sI (mm_sR (mm_nw (mm_sR (mm_nw (mm_sR (mm_nw μ 8 48) 46 3 (some (mm_Z μ))) 10 24) 46 4 (some (mm_Z (mm_sR (mm_nw μ 8 48) 46 3 (some (mm_Z μ)))))) 8 288) 46 5 (some (mm_Z (mm_sR (mm_nw (mm_sR (mm_nw μ 8 48) 46 3 (some (mm_Z μ))) 10 24) 46 4 (some (mm_Z (mm_sR (mm_nw μ 8 48) 46 3 (some (mm_Z μ))))))))) 46 6 (-1)))))))) 8 12) 46 20 (some (mm_Z (mm_sR (mm_nw (mm_sR (mm_nw (mm_sI (mm_sR (mm_nw (mm_sR (mm_nw (mm_sR (mm_nw μ 8 48) 46 3 (some (mm_Z μ))) 10 24) 46 4 (some (mm_Z (mm_sR (mm_nw μ 8 48) 46 3 (some (mm_Z μ)))))) 8 288) 46 5 (some (mm_Z (mm_sR (mm_nw (mm_sR (mm_nw μ 8 48) 46 3 (some (mm_Z μ))) 10 24) 46 4 (some (mm_Z (mm_sR (mm_nw μ 8 48) 46 3 (some (mm_Z μ))))))))) 46 6 (-1)) 8 24) 46 14 (some (mm_Z (mm_sI (mm_sR (mm_nw (mm_sR (mm_nw (mm_sR (mm_nw μ 8 48) 46 3 (some (mm_Z μ))) 10 24) 46 4 (some (mm_Z (mm_sR (mm_nw μ 8 48) 46 3 (some (mm_Z μ)))))) 8 288) 46 5 (some (mm_Z (mm_sR (mm_nw (mm_sR (mm_nw μ 8 48) 46 3 (some (mm_Z μ))) 10 24) 46 4 (some (mm_Z (mm_sR (mm_nw μ 8 48) 46 3 (some (mm_Z μ))))))))) 46 6 (-1))))) 8 12) 46 19 (some (mm_Z (mm_sR (mm_nw (mm_sI (mm_sR (mm_nw (mm_sR (mm_nw (mm_sR (mm_nw μ 8 48) 46 3 (some (mm_Z μ))) 10 24) 46 4 (some (mm_Z (mm_sR (mm_nw μ 8 48) 46 3 (some (mm_Z μ)))))) 8 288) 46 5 (some (mm_Z (mm_sR (mm_nw (mm_sR (mm_nw μ 8 48) 46 3 (some (mm_Z μ))) 10 24) 46 4 (some (mm_Z (mm_sR (mm_nw μ 8 48) 46 3 (some (mm_Z μ))))))))) 46 6 (-1)) 8 24) 46 14 (some (mm_Z (mm_sI (mm_sR (mm_nw (mm_sR (mm_nw (mm_sR (mm_nw μ 8 48) 46 3 (some (mm_Z μ))) 10 24) 46 4 (some (mm_Z (mm_sR (mm_nw μ 8 48) 46 3 (some (mm_Z μ)))))) 8 288) 46 5 (some (mm_Z (mm_sR (mm_nw (mm_sR (mm_nw μ 8 48) 46 3 (some (mm_Z μ))) 10 24) 46 4 (some (mm_Z (mm_sR (mm_nw μ 8 48) 46 3 (some (mm_Z μ))))))))) 46 6 (-1))))))))))))))))))))
set_option maxHeartbeats 1000000 in
theorem xi7_all {μ : am_M} (hz : mm_Z μ = 47) (ho : mm_S μ 46 = (7, 0)) : Kp2 μ (xiM7 μ) 46 ∧ mm_S (xiM7 μ) 46 = (7, 0) ∧ mm_S (xiM7 μ) 47 = (8, 48) ∧ mm_S (xiM7 μ) 48 = (10, 24) ∧ mm_S (xiM7 μ) 49 = (8, 288) ∧ mm_S (xiM7 μ) 50 = (8, 24) ∧ mm_S (xiM7 μ) 51 = (8, 12) ∧ mm_S (xiM7 μ) 52 = (8, 12) ∧ mm_S (xiM7 μ) 53 = (8, 24) ∧ mm_S (xiM7 μ) 54 = (10, 24) ∧ mm_S (xiM7 μ) 55 = (9, 1300) ∧ mm_R (xiM7 μ) 46 3 = some 47 ∧ mm_R (xiM7 μ) 46 4 = some 48 ∧ mm_R (xiM7 μ) 46 5 = some 49 ∧ mm_R (xiM7 μ) 46 14 = some 50 ∧ mm_R (xiM7 μ) 46 19 = some 51 ∧ mm_R (xiM7 μ) 46 20 = some 52 ∧ mm_R (xiM7 μ) 46 23 = some 53 ∧ mm_R (xiM7 μ) 46 24 = some 54 ∧ mm_R (xiM7 μ) 46 25 = some 55 ∧ mm_Z (xiM7 μ) = 56 ∧ mm_I (xiM7 μ) 46 1 = mm_I μ 46 1 ∧ mm_I (xiM7 μ) 46 2 = mm_I μ 46 2 ∧ mm_I (xiM7 μ) 46 6 = -1 ∧ (∀ k, mm_I (xiM7 μ) 49 k = 0) := by
  refine ⟨⟨fun a ha => ?_, fun a k ha => ?_, fun a k ha => ?_, fun a k ha => ?_⟩, ?_, ?_, ?_, ?_, ?_, ?_, ?_, ?_, ?_, ?_, ?_, ?_, ?_, ?_, ?_, ?_, ?_, ?_, ?_, ?_, ?_, ?_, ?_, fun k => ?_⟩
  all_goals
    simp only [mS_sI, mS_sL, mS_sR, mI_sL, mI_sR, mL_sI, mL_sR, mR_sI, mR_sL, mZ_sI, mZ_sL, mZ_sR, mI_sI, mR_sR, mS_nw, mI_nw, mL_nw, mR_nw, mZ_nw, mS_gr, mI_gr, mL_gr, mR_gr, mZ_gr, mI_fI, mL_fI, mS_fI, mR_fI, mZ_fI, mL_sL, hz]
    repeat (first | rw [if_neg (by omega)] | rw [if_pos (by omega)])
  all_goals
    first | assumption | (congr 1; omega) | rfl | (rw [if_pos trivial, if_pos hj]; try (congr 1; omega))
set_option maxRecDepth 100000 in
set_option maxHeartbeats 1000000 in
theorem ct_X7_init {E : am_E} {μ : am_M} (hz : mm_Z μ = 47) (ho : mm_S μ 46 = (7, 0)) : am_Ct E yX7_init cX7_init 1 none rmX7_init [.ref 46] μ (fun v μ' => v = none ∧ Kp2 μ μ' 46 ∧ mm_S μ' 46 = (7, 0) ∧ mm_S μ' 47 = (8, 48) ∧ mm_S μ' 48 = (10, 24) ∧ mm_S μ' 49 = (8, 288) ∧ mm_S μ' 50 = (8, 24) ∧ mm_S μ' 51 = (8, 12) ∧ mm_S μ' 52 = (8, 12) ∧ mm_S μ' 53 = (8, 24) ∧ mm_S μ' 54 = (10, 24) ∧ mm_S μ' 55 = (9, 1300) ∧ mm_R μ' 46 3 = some 47 ∧ mm_R μ' 46 4 = some 48 ∧ mm_R μ' 46 5 = some 49 ∧ mm_R μ' 46 14 = some 50 ∧ mm_R μ' 46 19 = some 51 ∧ mm_R μ' 46 20 = some 52 ∧ mm_R μ' 46 23 = some 53 ∧ mm_R μ' 46 24 = some 54 ∧ mm_R μ' 46 25 = some 55 ∧ mm_Z μ' = 56 ∧ mm_I μ' 46 1 = mm_I μ 46 1 ∧ mm_I μ' 46 2 = mm_I μ 46 2 ∧ mm_I μ' 46 6 = -1 ∧ (∀ k, mm_I μ' 49 k = 0)) := by
  refine am_Ct.of (ls := [some (.ref 46)]) (by decide) (Nat.le_of_ble_eq_true rfl) rfl (fun C fx hnm => ?_)
  refine am_aload_n fx dX7_init_0 rfl ?_
  refine am_objInit fx dX7_init_1 moX7_1 kw_oi kw_oc ⟨by decide, Nat.le_of_ble_eq_true rfl⟩ ?_
  refine am_aload_n fx dX7_init_4 rfl ?_
  refine am_bipush (v := (nI 48)) fx dX7_init_5 (by decide) ?_
  refine am_newarr fx dX7_init_7 (Or.inl ⟨rfl, rfl⟩) kw_aint rfl (by decide) (by decide) (by decide) ?_
  refine am_putFR fx hnm dX7_init_9 fgX7_7 (by decide) (by decide) rfl rfl rfl (congrArg Prod.fst (nw_so ho (by omega))) ?_
  have s1 : mm_S (mm_sR (mm_nw μ 8 48) 46 3 (some (mm_Z μ))) 46 = (7, 0) := nw_so ho (by omega)
  have z1 : mm_Z (mm_sR (mm_nw μ 8 48) 46 3 (some (mm_Z μ))) = 48 := by
    show mm_Z μ + 1 = _
    omega
  generalize hM1 : mm_sR (mm_nw μ 8 48) 46 3 (some (mm_Z μ)) = M1 at s1 z1 ⊢
  refine am_aload_n fx dX7_init_12 rfl ?_
  refine am_bipush (v := (nI 24)) fx dX7_init_13 (by decide) ?_
  refine am_newarr fx dX7_init_15 (Or.inr (Or.inr ⟨rfl, rfl⟩)) kw_aboolean rfl (by decide) (by decide) (by decide) ?_
  refine am_putFR fx hnm dX7_init_17 fgX7_13 (by decide) (by decide) rfl rfl rfl (congrArg Prod.fst (nw_so s1 (by omega))) ?_
  have s2 : mm_S (mm_sR (mm_nw M1 10 24) 46 4 (some (mm_Z M1))) 46 = (7, 0) := nw_so s1 (by omega)
  have z2 : mm_Z (mm_sR (mm_nw M1 10 24) 46 4 (some (mm_Z M1))) = 49 := by
    show mm_Z M1 + 1 = _
    omega
  generalize hM2 : mm_sR (mm_nw M1 10 24) 46 4 (some (mm_Z M1)) = M2 at s2 z2 ⊢
  refine am_aload_n fx dX7_init_20 rfl ?_
  refine am_sipush (v := (nI 288)) fx dX7_init_21 (by decide) ?_
  refine am_newarr fx dX7_init_24 (Or.inl ⟨rfl, rfl⟩) kw_aint rfl (by decide) (by decide) (by decide) ?_
  refine am_putFR fx hnm dX7_init_26 fgX7_17 (by decide) (by decide) rfl rfl rfl (congrArg Prod.fst (nw_so s2 (by omega))) ?_
  have s3 : mm_S (mm_sR (mm_nw M2 8 288) 46 5 (some (mm_Z M2))) 46 = (7, 0) := nw_so s2 (by omega)
  have z3 : mm_Z (mm_sR (mm_nw M2 8 288) 46 5 (some (mm_Z M2))) = 50 := by
    show mm_Z M2 + 1 = _
    omega
  generalize hM3 : mm_sR (mm_nw M2 8 288) 46 5 (some (mm_Z M2)) = M3 at s3 z3 ⊢
  refine am_aload_n fx dX7_init_29 rfl ?_
  refine am_iconst (v := (-1)) fx dX7_init_30 (by decide) ?_
  refine am_putI fx dX7_init_31 fkX7_20 (by decide) (by decide) rfl rfl (congrArg Prod.fst s3) ?_
  have s4 : mm_S (mm_sI M3 46 6 (-1)) 46 = (7, 0) := s3
  have z4 : mm_Z (mm_sI M3 46 6 (-1)) = 50 := z3
  generalize hM4 : mm_sI M3 46 6 (-1) = M4 at s4 z4 ⊢
  refine am_aload_n fx dX7_init_34 rfl ?_
  refine am_bipush (v := (nI 24)) fx dX7_init_35 (by decide) ?_
  refine am_newarr fx dX7_init_37 (Or.inl ⟨rfl, rfl⟩) kw_aint rfl (by decide) (by decide) (by decide) ?_
  refine am_putFR fx hnm dX7_init_39 fgX7_24 (by decide) (by decide) rfl rfl rfl (congrArg Prod.fst (nw_so s4 (by omega))) ?_
  have s5 : mm_S (mm_sR (mm_nw M4 8 24) 46 14 (some (mm_Z M4))) 46 = (7, 0) := nw_so s4 (by omega)
  have z5 : mm_Z (mm_sR (mm_nw M4 8 24) 46 14 (some (mm_Z M4))) = 51 := by
    show mm_Z M4 + 1 = _
    omega
  generalize hM5 : mm_sR (mm_nw M4 8 24) 46 14 (some (mm_Z M4)) = M5 at s5 z5 ⊢
  refine am_aload_n fx dX7_init_42 rfl ?_
  refine am_bipush (v := (nI 12)) fx dX7_init_43 (by decide) ?_
  refine am_newarr fx dX7_init_45 (Or.inl ⟨rfl, rfl⟩) kw_aint rfl (by decide) (by decide) (by decide) ?_
  refine am_putFR fx hnm dX7_init_47 fgX7_27 (by decide) (by decide) rfl rfl rfl (congrArg Prod.fst (nw_so s5 (by omega))) ?_
  have s6 : mm_S (mm_sR (mm_nw M5 8 12) 46 19 (some (mm_Z M5))) 46 = (7, 0) := nw_so s5 (by omega)
  have z6 : mm_Z (mm_sR (mm_nw M5 8 12) 46 19 (some (mm_Z M5))) = 52 := by
    show mm_Z M5 + 1 = _
    omega
  generalize hM6 : mm_sR (mm_nw M5 8 12) 46 19 (some (mm_Z M5)) = M6 at s6 z6 ⊢
  refine am_aload_n fx dX7_init_50 rfl ?_
  refine am_bipush (v := (nI 12)) fx dX7_init_51 (by decide) ?_
  refine am_newarr fx dX7_init_53 (Or.inl ⟨rfl, rfl⟩) kw_aint rfl (by decide) (by decide) (by decide) ?_
  refine am_putFR fx hnm dX7_init_55 fgX7_30 (by decide) (by decide) rfl rfl rfl (congrArg Prod.fst (nw_so s6 (by omega))) ?_
  have s7 : mm_S (mm_sR (mm_nw M6 8 12) 46 20 (some (mm_Z M6))) 46 = (7, 0) := nw_so s6 (by omega)
  have z7 : mm_Z (mm_sR (mm_nw M6 8 12) 46 20 (some (mm_Z M6))) = 53 := by
    show mm_Z M6 + 1 = _
    omega
  generalize hM7 : mm_sR (mm_nw M6 8 12) 46 20 (some (mm_Z M6)) = M7 at s7 z7 ⊢
  refine am_aload_n fx dX7_init_58 rfl ?_
  refine am_bipush (v := (nI 24)) fx dX7_init_59 (by decide) ?_
  refine am_newarr fx dX7_init_61 (Or.inl ⟨rfl, rfl⟩) kw_aint rfl (by decide) (by decide) (by decide) ?_
  refine am_putFR fx hnm dX7_init_63 fgX7_33 (by decide) (by decide) rfl rfl rfl (congrArg Prod.fst (nw_so s7 (by omega))) ?_
  have s8 : mm_S (mm_sR (mm_nw M7 8 24) 46 23 (some (mm_Z M7))) 46 = (7, 0) := nw_so s7 (by omega)
  have z8 : mm_Z (mm_sR (mm_nw M7 8 24) 46 23 (some (mm_Z M7))) = 54 := by
    show mm_Z M7 + 1 = _
    omega
  generalize hM8 : mm_sR (mm_nw M7 8 24) 46 23 (some (mm_Z M7)) = M8 at s8 z8 ⊢
  refine am_aload_n fx dX7_init_66 rfl ?_
  refine am_bipush (v := (nI 24)) fx dX7_init_67 (by decide) ?_
  refine am_newarr fx dX7_init_69 (Or.inr (Or.inr ⟨rfl, rfl⟩)) kw_aboolean rfl (by decide) (by decide) (by decide) ?_
  refine am_putFR fx hnm dX7_init_71 fgX7_36 (by decide) (by decide) rfl rfl rfl (congrArg Prod.fst (nw_so s8 (by omega))) ?_
  have s9 : mm_S (mm_sR (mm_nw M8 10 24) 46 24 (some (mm_Z M8))) 46 = (7, 0) := nw_so s8 (by omega)
  have z9 : mm_Z (mm_sR (mm_nw M8 10 24) 46 24 (some (mm_Z M8))) = 55 := by
    show mm_Z M8 + 1 = _
    omega
  generalize hM9 : mm_sR (mm_nw M8 10 24) 46 24 (some (mm_Z M8)) = M9 at s9 z9 ⊢
  refine am_aload_n fx dX7_init_74 rfl ?_
  refine am_sipush (v := (nI 1300)) fx dX7_init_75 (by decide) ?_
  refine am_newarr fx dX7_init_78 (Or.inr (Or.inl ⟨rfl, rfl⟩)) kw_along rfl (by decide) (by decide) (by decide) ?_
  refine am_putFR fx hnm dX7_init_80 fgX7_39 (by decide) (by decide) rfl rfl rfl (congrArg Prod.fst (nw_so s9 (by omega))) ?_
  have s10 : mm_S (mm_sR (mm_nw M9 9 1300) 46 25 (some (mm_Z M9))) 46 = (7, 0) := nw_so s9 (by omega)
  have z10 : mm_Z (mm_sR (mm_nw M9 9 1300) 46 25 (some (mm_Z M9))) = 56 := by
    show mm_Z M9 + 1 = _
    omega
  generalize hM10 : mm_sR (mm_nw M9 9 1300) 46 25 (some (mm_Z M9)) = M10 at s10 z10 ⊢
  have e9 : M10 = xiM7 μ := by rw [← hM10, ← hM9, ← hM8, ← hM7, ← hM6, ← hM5, ← hM4, ← hM3, ← hM2, ← hM1]
  refine am_widen (k := (rmX7_init).cells) (n := (rmX7_init).slots) (by decide) (by decide) ?_
  exact am_vret fx dX7_init_83 ⟨rfl, by rw [e9]; exact xi7_all hz ho⟩
abbrev xiM5 (μ : am_M) : am_M := (mm_sI (mm_sI (mm_sR (mm_nw (mm_sR (mm_gr (mm_sR (mm_nw (mm_sR (mm_gr μ 12 24) 2 0 (some (mm_Z μ))) 8 12) 2 1 (some (mm_Z (mm_sR (mm_gr μ 12 24) 2 0 (some (mm_Z μ)))))) 2 24) 2 2 (some (mm_Z (mm_sR (mm_nw (mm_sR (mm_gr μ 12 24) 2 0 (some (mm_Z μ))) 8 12) 2 1 (some (mm_Z (mm_sR (mm_gr μ 12 24) 2 0 (some (mm_Z μ))))))))) 10 24) 2 3 (some (mm_Z (mm_sR (mm_gr (mm_sR (mm_nw (mm_sR (mm_gr μ 12 24) 2 0 (some (mm_Z μ))) 8 12) 2 1 (some (mm_Z (mm_sR (mm_gr μ 12 24) 2 0 (some (mm_Z μ)))))) 2 24) 2 2 (some (mm_Z (mm_sR (mm_nw (mm_sR (mm_gr μ 12 24) 2 0 (some (mm_Z μ))) 8 12) 2 1 (some (mm_Z (mm_sR (mm_gr μ 12 24) 2 0 (some (mm_Z μ)))))))))))) 2 4 0) 2 5 0)
set_option maxHeartbeats 1000000 in
theorem xi5_all {μ : am_M} (hz : mm_Z μ = 3) (ho : mm_S μ 2 = (5, 0)) : Kp2 μ (xiM5 μ) 2 ∧ mm_S (xiM5 μ) 2 = (5, 0) ∧ mm_S (xiM5 μ) 3 = (11, 12) ∧ (∀ j, j < 12 → mm_S (xiM5 μ) (4 + j) = (8, 24)) ∧ mm_S (xiM5 μ) 16 = (8, 12) ∧ mm_S (xiM5 μ) 17 = (11, 2) ∧ (∀ j, j < 2 → mm_S (xiM5 μ) (18 + j) = (8, 24)) ∧ mm_S (xiM5 μ) 20 = (10, 24) ∧ mm_R (xiM5 μ) 2 0 = some 3 ∧ (∀ j, j < 12 → mm_R (xiM5 μ) 3 j = some (4 + j)) ∧ mm_R (xiM5 μ) 2 1 = some 16 ∧ mm_R (xiM5 μ) 2 2 = some 17 ∧ (∀ j, j < 2 → mm_R (xiM5 μ) 17 j = some (18 + j)) ∧ mm_R (xiM5 μ) 2 3 = some 20 ∧ mm_Z (xiM5 μ) = 21 ∧ mm_I (xiM5 μ) 2 4 = 0 ∧ mm_I (xiM5 μ) 2 5 = 0 ∧ (∀ k, mm_I (xiM5 μ) 16 k = 0) := by
  refine ⟨⟨fun a ha => ?_, fun a k ha => ?_, fun a k ha => ?_, fun a k ha => ?_⟩, ?_, ?_, fun j hj => ?_, ?_, ?_, fun j hj => ?_, ?_, ?_, fun j hj => ?_, ?_, ?_, fun j hj => ?_, ?_, ?_, ?_, ?_, fun k => ?_⟩
  all_goals
    simp only [mS_sI, mS_sL, mS_sR, mI_sL, mI_sR, mL_sI, mL_sR, mR_sI, mR_sL, mZ_sI, mZ_sL, mZ_sR, mI_sI, mR_sR, mS_nw, mI_nw, mL_nw, mR_nw, mZ_nw, mS_gr, mI_gr, mL_gr, mR_gr, mZ_gr, mI_fI, mL_fI, mS_fI, mR_fI, mZ_fI, mL_sL, hz]
    repeat (first | rw [if_neg (by omega)] | rw [if_pos (by omega)])
  all_goals
    first | assumption | (congr 1; omega) | rfl | (rw [if_pos trivial, if_pos hj]; try (congr 1; omega))
def mm_fl (μ : am_M) (r : Nat) : am_M := (μ.1, fun a k => if (4 ≤ a ∧ a < 4 + r) ∧ k < 24 then -1 else μ.2.1 a k, μ.2.2.1, μ.2.2.2.1, μ.2.2.2.2)
theorem mI_fl (μ : am_M) (r a k : Nat) : mm_I (mm_fl μ r) a k = if (4 ≤ a ∧ a < 4 + r) ∧ k < 24 then -1 else mm_I μ a k := rfl
theorem fl_0 (μ : am_M) : mm_fl μ 0 = μ := am_ext rfl (fun a k => by rw [mI_fl, if_neg (by omega)]) (fun _ _ => rfl) rfl rfl
theorem fl_s (μ : am_M) (r : Nat) : mm_fI (mm_fl μ r) (4 + r) (flI (-1) (mm_I (mm_fl μ r) (4 + r)) 24) = mm_fl μ (r + 1) := am_ext rfl (fun a k => by
  rw [mI_fI, mI_fl, mI_fl]
  by_cases h : a = 4 + r
  · subst h
    rw [if_pos rfl]
    unfold flI
    by_cases hk : k < 24
    · rw [if_pos hk, if_pos ⟨by omega, hk⟩]
    · rw [if_neg hk, if_neg (fun z => hk z.2), mI_fl, if_neg (fun z => hk z.2)]
  · rw [if_neg h]
    by_cases h2 : (4 ≤ a ∧ a < 4 + r) ∧ k < 24
    · rw [if_pos h2, if_pos ⟨by omega, h2.2⟩]
    · rw [if_neg h2, if_neg (fun z => h2 ⟨by omega, z.2⟩)]) (fun _ _ => rfl) rfl rfl
set_option maxRecDepth 100000 in
set_option maxHeartbeats 1000000 in
theorem ct_X5_init {E : am_E} {μ : am_M} (hz : mm_Z μ = 3) (ho : mm_S μ 2 = (5, 0)) : am_Ct E yX5_init cX5_init 2 none rmX5_init [.ref 2] μ (fun v μ' => v = none ∧ Kp2 μ μ' 2 ∧ mm_S μ' 2 = (5, 0) ∧ mm_S μ' 3 = (11, 12) ∧ (∀ j, j < 12 → mm_S μ' (4 + j) = (8, 24)) ∧ mm_S μ' 16 = (8, 12) ∧ mm_S μ' 17 = (11, 2) ∧ (∀ j, j < 2 → mm_S μ' (18 + j) = (8, 24)) ∧ mm_S μ' 20 = (10, 24) ∧ mm_R μ' 2 0 = some 3 ∧ (∀ j, j < 12 → mm_R μ' 3 j = some (4 + j)) ∧ mm_R μ' 2 1 = some 16 ∧ mm_R μ' 2 2 = some 17 ∧ (∀ j, j < 2 → mm_R μ' 17 j = some (18 + j)) ∧ mm_R μ' 2 3 = some 20 ∧ mm_Z μ' = 21 ∧ mm_I μ' 2 4 = 0 ∧ mm_I μ' 2 5 = 0 ∧ (∀ k, mm_I μ' 16 k = 0) ∧ (∀ s i, s < 12 → i < 24 → mm_I μ' (4 + s) i = -1)) := by
  refine am_Ct.of (ls := [some (.ref 2), none]) (by decide) (Nat.le_of_ble_eq_true rfl) rfl (fun C fx hnm => ?_)
  refine am_aload_n fx dX5_init_0 rfl ?_
  refine am_objInit fx dX5_init_1 moX5_3 kw_oi kw_oc ⟨by decide, Nat.le_of_ble_eq_true rfl⟩ ?_
  refine am_aload_n fx dX5_init_4 rfl ?_
  refine am_bipush (v := (nI 12)) fx dX5_init_5 (by decide) ?_
  refine am_bipush (v := (nI 24)) fx dX5_init_7 (by decide) ?_
  refine am_mna fx dX5_init_9 klX5_9 kw_aint rfl rfl (by decide) (by decide) (by decide) (by decide) ?_
  refine am_putFR fx hnm dX5_init_13 fgX5_11 (by decide) (by decide) rfl rfl rfl (congrArg Prod.fst (gr_so ho (by omega))) ?_
  have s1 : mm_S (mm_sR (mm_gr μ 12 24) 2 0 (some (mm_Z μ))) 2 = (5, 0) := gr_so ho (by omega)
  have z1 : mm_Z (mm_sR (mm_gr μ 12 24) 2 0 (some (mm_Z μ))) = 16 := by
    show mm_Z μ + 1 + 12 = _
    omega
  generalize hM1 : mm_sR (mm_gr μ 12 24) 2 0 (some (mm_Z μ)) = M1 at s1 z1 ⊢
  refine am_aload_n fx dX5_init_16 rfl ?_
  refine am_bipush (v := (nI 12)) fx dX5_init_17 (by decide) ?_
  refine am_newarr fx dX5_init_19 (Or.inl ⟨rfl, rfl⟩) kw_aint rfl (by decide) (by decide) (by decide) ?_
  refine am_putFR fx hnm dX5_init_21 fgX5_16 (by decide) (by decide) rfl rfl rfl (congrArg Prod.fst (nw_so s1 (by omega))) ?_
  have s2 : mm_S (mm_sR (mm_nw M1 8 12) 2 1 (some (mm_Z M1))) 2 = (5, 0) := nw_so s1 (by omega)
  have z2 : mm_Z (mm_sR (mm_nw M1 8 12) 2 1 (some (mm_Z M1))) = 17 := by
    show mm_Z M1 + 1 = _
    omega
  generalize hM2 : mm_sR (mm_nw M1 8 12) 2 1 (some (mm_Z M1)) = M2 at s2 z2 ⊢
  refine am_aload_n fx dX5_init_24 rfl ?_
  refine am_iconst (v := 2) fx dX5_init_25 (by decide) ?_
  refine am_bipush (v := (nI 24)) fx dX5_init_26 (by decide) ?_
  refine am_mna fx dX5_init_28 klX5_9 kw_aint rfl rfl (by decide) (by decide) (by decide) (by decide) ?_
  refine am_putFR fx hnm dX5_init_32 fgX5_20 (by decide) (by decide) rfl rfl rfl (congrArg Prod.fst (gr_so s2 (by omega))) ?_
  have s3 : mm_S (mm_sR (mm_gr M2 2 24) 2 2 (some (mm_Z M2))) 2 = (5, 0) := gr_so s2 (by omega)
  have z3 : mm_Z (mm_sR (mm_gr M2 2 24) 2 2 (some (mm_Z M2))) = 20 := by
    show mm_Z M2 + 1 + 2 = _
    omega
  generalize hM3 : mm_sR (mm_gr M2 2 24) 2 2 (some (mm_Z M2)) = M3 at s3 z3 ⊢
  refine am_aload_n fx dX5_init_35 rfl ?_
  refine am_bipush (v := (nI 24)) fx dX5_init_36 (by decide) ?_
  refine am_newarr fx dX5_init_38 (Or.inr (Or.inr ⟨rfl, rfl⟩)) kw_aboolean rfl (by decide) (by decide) (by decide) ?_
  refine am_putFR fx hnm dX5_init_40 fgX5_23 (by decide) (by decide) rfl rfl rfl (congrArg Prod.fst (nw_so s3 (by omega))) ?_
  have s4 : mm_S (mm_sR (mm_nw M3 10 24) 2 3 (some (mm_Z M3))) 2 = (5, 0) := nw_so s3 (by omega)
  have z4 : mm_Z (mm_sR (mm_nw M3 10 24) 2 3 (some (mm_Z M3))) = 21 := by
    show mm_Z M3 + 1 = _
    omega
  generalize hM4 : mm_sR (mm_nw M3 10 24) 2 3 (some (mm_Z M3)) = M4 at s4 z4 ⊢
  refine am_aload_n fx dX5_init_43 rfl ?_
  refine am_iconst (v := 0) fx dX5_init_44 (by decide) ?_
  refine am_putI fx dX5_init_45 fkX5_27 (by decide) (by decide) rfl rfl (congrArg Prod.fst s4) ?_
  have s5 : mm_S (mm_sI M4 2 4 0) 2 = (5, 0) := s4
  have z5 : mm_Z (mm_sI M4 2 4 0) = 21 := z4
  generalize hM5 : mm_sI M4 2 4 0 = M5 at s5 z5 ⊢
  refine am_aload_n fx dX5_init_48 rfl ?_
  refine am_iconst (v := 0) fx dX5_init_49 (by decide) ?_
  refine am_putI fx dX5_init_50 fkX5_31 (by decide) (by decide) rfl rfl (congrArg Prod.fst s5) ?_
  have s6 : mm_S (mm_sI M5 2 5 0) 2 = (5, 0) := s5
  have z6 : mm_Z (mm_sI M5 2 5 0) = 21 := z5
  generalize hM6 : mm_sI M5 2 5 0 = M6 at s6 z6 ⊢
  have e9 : M6 = xiM5 μ := by rw [← hM6, ← hM5, ← hM4, ← hM3, ← hM2, ← hM1]
  have hall := xi5_all hz ho
  rw [← e9] at hall
  obtain ⟨gk, g0, g1, g2, g3, g4, g5, g6, g7, g8, g9, g10, g11, g12, g13, i4, i5, i16⟩ := hall
  refine am_iconst (v := 0) fx dX5_init_53 (by decide) ?_
  refine am_istore_n fx dX5_init_54 (by decide) rfl ?_
  have lp55 : ∀ (mz : Nat) (r : Nat), 12 - r = mz → r ≤ 12 → am_W E C (am_MQ E C (fun v μ' => v = none ∧ Kp2 μ μ' 2 ∧ mm_S μ' 2 = (5, 0) ∧ mm_S μ' 3 = (11, 12) ∧ (∀ j, j < 12 → mm_S μ' (4 + j) = (8, 24)) ∧ mm_S μ' 16 = (8, 12) ∧ mm_S μ' 17 = (11, 2) ∧ (∀ j, j < 2 → mm_S μ' (18 + j) = (8, 24)) ∧ mm_S μ' 20 = (10, 24) ∧ mm_R μ' 2 0 = some 3 ∧ (∀ j, j < 12 → mm_R μ' 3 j = some (4 + j)) ∧ mm_R μ' 2 1 = some 16 ∧ mm_R μ' 2 2 = some 17 ∧ (∀ j, j < 2 → mm_R μ' 17 j = some (18 + j)) ∧ mm_R μ' 2 3 = some 20 ∧ mm_Z μ' = 21 ∧ mm_I μ' 2 4 = 0 ∧ mm_I μ' 2 5 = 0 ∧ (∀ k, mm_I μ' 16 k = 0) ∧ (∀ s i, s < 12 → i < 24 → mm_I μ' (4 + s) i = -1)) (rmX5_init).cells (rmX5_init).slots) (mm_fl M6 r) 18 386 55 [some (.ref 2), some (.int (nI r))] [] := by
    intro mz
    induction mz using Nat.strongRecOn with
    | ind mz ih =>
      intro r hzz hr
      refine am_iload_n fx dX5_init_55 rfl ?_
      refine am_bipush (v := (nI 12)) fx dX5_init_56 (by decide) ?_
      refine am_icmp_ge fx 77 dX5_init_58 (by decide) (fun c58 => ?_) (fun c58 => ?_)
      · try simp (disch := omega) only [bz_0, Classical.not_not, Int32.not_le, Int32.not_lt, Nat.not_le, Nat.not_lt, nI_leI, nI_ltI, nI_eq, nI_le0, nI_lt0] at c58
        rw [show r = 12 by omega]
        refine am_widen (k := (rmX5_init).cells) (n := (rmX5_init).slots) (by decide) (by decide) ?_
        exact am_vret fx dX5_init_77 ⟨rfl, ⟨gk.1, fun a k ha => by rw [mI_fl, if_neg (by omega)]; exact gk.2.1 a k ha, gk.2.2.1, gk.2.2.2⟩, g0, g1, g2, g3, g4, g5, g6, g7, g8, g9, g10, g11, g12, g13, (mI_fl _ _ _ _).trans ((if_neg (by omega)).trans i4), (mI_fl _ _ _ _).trans ((if_neg (by omega)).trans i5), fun k => (mI_fl _ _ _ _).trans ((if_neg (by omega)).trans (i16 k)), fun s i hs hi => (mI_fl _ _ _ _).trans (if_pos ⟨by omega, hi⟩)⟩
      · try simp (disch := omega) only [bz_0, Classical.not_not, Int32.not_le, Int32.not_lt, Nat.not_le, Nat.not_lt, nI_leI, nI_ltI, nI_eq, nI_le0, nI_lt0] at c58
        refine am_aload_n fx dX5_init_61 rfl ?_
        refine am_getR fx dX5_init_62 fkX5_11 (by decide) (by decide) rfl (congrArg Prod.fst (show mm_S (mm_fl M6 r) 2 = (5, 0) from g0)) (show mm_R (mm_fl M6 r) 2 0 = some 3 from g7) ?_
        refine am_iload_n fx dX5_init_65 rfl ?_
        refine am_aald  fx dX5_init_66 (show mm_S (mm_fl M6 r) 3 = (11, 12) from g1) rfl (by omega) (by decide) (show mm_R (mm_fl M6 r) 3 r = some (4 + r) from g8 r (by omega)) ?_
        refine am_iconst (v := (-1)) fx dX5_init_67 (by decide) ?_
        refine am_callS fx dX5_init_68 mkX5_34 (ct_J7_fill_53178 (a := 4 + r) (N := 24) (show mm_S (mm_fl M6 r) (4 + r) = (8, 24) from g2 r (by omega)) (by decide) (-1)) rfl (Nat.le_of_ble_eq_true rfl) ⟨by decide, by decide⟩ ⟨Nat.le_of_ble_eq_true rfl, Nat.le_of_ble_eq_true rfl⟩ rfl ?_
        rintro _ _ ⟨rfl, rfl⟩
        first | refine am_iinc fx dX5_init_71 rfl (nI_inc _) (by decide) rfl ?_ | refine am_iinc fx dX5_init_71 rfl rfl (by decide) rfl ?_
        refine am_goto fx 55 dX5_init_74 (by decide) ?_
        exact am_mem (fl_s _ _) (ih (12 - (r + 1)) (by omega) (r + 1) rfl (by omega))
  exact am_mem (fl_0 M6).symm (lp55 _ 0 rfl (Nat.zero_le _))
