/-- what the search for the best cut leaves -/
def StP (μ μ' : am_M) (S N : Nat) : Prop := Sm S3s μ μ' ∧ fld μ' = (stF (fun s => decide (mm_I μ 16 s = nI N)) (lrn μ) S N (ftF μ) (cst μ) (2147483647, mm_I μ 43 2, mm_I μ 43 3, -1, -1) 2)
theorem wh_ex {μ : am_M} {S N : Nat} (h : ¬ cnt (whB μ N) S = 0) : ∃ s, s < S ∧ mm_I μ 16 s = nI N := by
  obtain ⟨s, h1, h2⟩ := cnt_pos (b := whB μ N) (n := S) (by omega)
  exact ⟨s, h1, of_decide_eq_true h2⟩
def Fe (μ : am_M) (N : Nat) : Prop := ∀ f i, f < 2 → i < N → 0 ≤ mm_I μ (18 + f) i
set_option maxRecDepth 100000 in
set_option maxHeartbeats 4000000 in
theorem ct_X6_stump {E : am_E} {μ : am_M} (hb : Bs μ) {S N : Nat} (ht : Tb μ S N) (hfe : Fe μ N) (x : Int32) : am_Ct E yX6_stump cX6_stump 2 (some .int) rmX6_stump [.ref 1, .int x] μ (fun v μ' => (¬ (0 ≤ x ∧ x ≤ 4) ∧ v = some (.int (-2)) ∧ μ = μ') ∨ ((0 ≤ x ∧ x ≤ 4) ∧ cnt (whB μ N) S = 0 ∧ v = some (.int (-3)) ∧ μ = μ') ∨ (¬ cnt (whB μ N) S = 0 ∧ ∃ j, j ≤ 4 ∧ x = nI j ∧ StP μ μ' S N ∧ v = some (.int (mm_I μ' 43 (j + 2))))) := by
  refine am_Ct.of (ls := [some (.ref 1), some (.int x)]) (by decide) (Nat.le_of_ble_eq_true rfl) rfl (fun C fx hnm => ?_)
  have hS := ht.s
  have hN := ht.n
  have hcw := cw_cnt μ N S
  have hcS := cnt_le (whB μ N) S
  refine am_iload_n fx dX6_stump_0 rfl ?_
  refine am_iconst (v := 0) fx dX6_stump_1 (by decide) ?_
  refine am_iconst (v := 4) fx dX6_stump_2 (by decide) ?_
  refine am_callS fx dX6_stump_3 mkX6_47 (ct_X6_isWithin hb _ _ _) rfl (Nat.le_of_ble_eq_true rfl) ⟨by decide, by decide⟩ ⟨Nat.le_of_ble_eq_true rfl, Nat.le_of_ble_eq_true rfl⟩ rfl ?_
  rintro _ _ ⟨rfl, rfl⟩
  refine am_if_ne fx 12 dX6_stump_6 (by decide) (fun c6 => ?_) (fun c6 => ?_)
  · try simp (disch := omega) only [bz_0, Classical.not_not, Int32.not_le, Int32.not_lt, Nat.not_le, Nat.not_lt, nI_leI, nI_ltI, nI_eq, nI_le0, nI_lt0] at c6
    refine am_aload_n fx dX6_stump_12 rfl ?_
    refine am_getR fx dX6_stump_13 fkX6_12 (by decide) (by decide) rfl (so6 hb) (rf6_0 hb) ?_
    refine am_callV fx dX6_stump_16 mkX6_155 (ct_X5_countWhole hb ht) (so5 hb) ⟨by decide, rfl⟩ rfl (Nat.le_of_ble_eq_true rfl) ⟨by decide, by decide⟩ ⟨Nat.le_of_ble_eq_true rfl, Nat.le_of_ble_eq_true rfl⟩ rfl ?_
    rintro _ _ ⟨rfl, rfl⟩
    rw [hcw]
    refine am_if_ne fx 25 dX6_stump_19 (by decide) (fun c19 => ?_) (fun c19 => ?_)
    · skip
      have c19 : ¬ cnt (whB μ N) S = 0 := fun z => c19 (by rw [z]; rfl)
      refine am_aload_n fx dX6_stump_25 rfl ?_
      refine am_getR fx dX6_stump_26 fkX6_35 (by decide) (by decide) rfl (so6 hb) (rf6_3 hb) ?_
      refine am_aload_n fx dX6_stump_29 rfl ?_
      refine am_getR fx dX6_stump_30 fkX6_12 (by decide) (by decide) rfl (so6 hb) (rf6_0 hb) ?_
      refine am_callV fx dX6_stump_33 mkX6_171 (ct_X4_find hb ht (wh_ex c19) hfe) (so4 hb) ⟨by decide, rfl⟩ rfl (Nat.le_of_ble_eq_true rfl) ⟨by decide, by decide⟩ ⟨Nat.le_of_ble_eq_true rfl, Nat.le_of_ble_eq_true rfl⟩ rfl ?_
      rintro _ ν ⟨rfl, hSp, hPf⟩
      have hb2 : Bs ν := hb.fr hSp.1
      have hPP : StP μ ν S N := ⟨hSp, hPf⟩
      refine am_iload_n fx dX6_stump_36 rfl ?_
      obtain ⟨j, hj, rfl⟩ := rg_le (n := 4) c6 (by decide)
      rcases (show j = 0 ∨ j = 1 ∨ j = 2 ∨ j = 3 ∨ j = 4 by omega) with rfl | rfl | rfl | rfl | rfl
      · refine am_tabIn fx 68 dX6_stump_37 (by decide) (by decide) rfl (by decide) ?_
        refine am_aload_n fx dX6_stump_68 rfl ?_
        refine am_getR fx dX6_stump_69 fkX6_35 (by decide) (by decide) rfl (so6 hb2) (rf6_3 hb2) ?_
        refine am_getI fx dX6_stump_72 fkX6_174 (by decide) (by decide) rfl (so4 hb2) rfl ?_
        exact am_iret fx dX6_stump_75 (Or.inr (Or.inr ⟨c19, 0, hj, rfl, hPP, rfl⟩))
      · refine am_tabIn fx 76 dX6_stump_37 (by decide) (by decide) rfl (by decide) ?_
        refine am_aload_n fx dX6_stump_76 rfl ?_
        refine am_getR fx dX6_stump_77 fkX6_35 (by decide) (by decide) rfl (so6 hb2) (rf6_3 hb2) ?_
        refine am_getI fx dX6_stump_80 fkX6_177 (by decide) (by decide) rfl (so4 hb2) rfl ?_
        exact am_iret fx dX6_stump_83 (Or.inr (Or.inr ⟨c19, 1, hj, rfl, hPP, rfl⟩))
      · refine am_tabIn fx 84 dX6_stump_37 (by decide) (by decide) rfl (by decide) ?_
        refine am_aload_n fx dX6_stump_84 rfl ?_
        refine am_getR fx dX6_stump_85 fkX6_35 (by decide) (by decide) rfl (so6 hb2) (rf6_3 hb2) ?_
        refine am_getI fx dX6_stump_88 fkX6_180 (by decide) (by decide) rfl (so4 hb2) rfl ?_
        exact am_iret fx dX6_stump_91 (Or.inr (Or.inr ⟨c19, 2, hj, rfl, hPP, rfl⟩))
      · refine am_tabIn fx 92 dX6_stump_37 (by decide) (by decide) rfl (by decide) ?_
        refine am_aload_n fx dX6_stump_92 rfl ?_
        refine am_getR fx dX6_stump_93 fkX6_35 (by decide) (by decide) rfl (so6 hb2) (rf6_3 hb2) ?_
        refine am_getI fx dX6_stump_96 fkX6_183 (by decide) (by decide) rfl (so4 hb2) rfl ?_
        exact am_iret fx dX6_stump_99 (Or.inr (Or.inr ⟨c19, 3, hj, rfl, hPP, rfl⟩))
      · refine am_tabOut fx 100 dX6_stump_37 (by decide) (by decide) ?_
        refine am_aload_n fx dX6_stump_100 rfl ?_
        refine am_getR fx dX6_stump_101 fkX6_35 (by decide) (by decide) rfl (so6 hb2) (rf6_3 hb2) ?_
        refine am_getI fx dX6_stump_104 fkX6_186 (by decide) (by decide) rfl (so4 hb2) rfl ?_
        exact am_iret fx dX6_stump_107 (Or.inr (Or.inr ⟨c19, 4, hj, rfl, hPP, rfl⟩))
    · skip
      have c19 : cnt (whB μ N) S = 0 := by
        rcases Nat.eq_zero_or_pos (cnt (whB μ N) S) with z | z
        · exact z
        · exact absurd c19 (nI_ne0 z (by omega))
      refine am_bipush (v := (-3)) fx dX6_stump_22 (by decide) ?_
      exact am_iret fx dX6_stump_24 (Or.inr (Or.inl ⟨c6, c19, rfl, rfl⟩))
  · try simp (disch := omega) only [bz_0, Classical.not_not, Int32.not_le, Int32.not_lt, Nat.not_le, Nat.not_lt, nI_leI, nI_ltI, nI_eq, nI_le0, nI_lt0] at c6
    refine am_bipush (v := (-2)) fx dX6_stump_9 (by decide) ?_
    exact am_iret fx dX6_stump_11 (Or.inl ⟨c6, rfl, rfl⟩)
set_option maxRecDepth 100000 in
set_option maxHeartbeats 4000000 in
theorem ct_X6_findChoice1 {E : am_E} {μ : am_M} (hb : Bs μ) {S N : Nat} (ht : Tb μ S N) (hsum : ∀ k wf p, (∀ x, x < (cnt (whB μ N) S) → wf x < S ∧ (whB μ N) (wf x) = true ∧ cnt (whB μ N) (wf x) = x) → inc (cnt (whB μ N) S) k p → (sumP (lrn μ) (fun s i => mm_I μ (4 + s) i) wf k N) p < 2147483647) (hc : 1 ≤ cnt (whB μ N) S) : am_Ct E yX6_findChoice cX6_findChoice 2 none rmX6_findChoice [.ref 1, .int (nI 1)] μ (fun v μ' => v = none ∧ PfP μ μ' S N 1) := by
  refine am_Ct.of (ls := [some (.ref 1), some (.int (nI 1))]) (by decide) (Nat.le_of_ble_eq_true rfl) rfl (fun C fx hnm => ?_)
  refine am_iload_n fx dX6_findChoice_0 rfl ?_
  refine am_iconst (v := 1) fx dX6_findChoice_1 (by decide) ?_
  refine am_icmp_ne fx 20 dX6_findChoice_2 (by decide) (fun c2 => ?_) (fun c2 => ?_)
  · skip
    exact absurd rfl c2
  · skip
    refine am_aload_n fx dX6_findChoice_5 rfl ?_
    refine am_getR fx dX6_findChoice_6 fkX6_28 (by decide) (by decide) rfl (so6 hb) (rf6_2 hb) ?_
    refine am_aload_n fx dX6_findChoice_9 rfl ?_
    refine am_getR fx dX6_findChoice_10 fkX6_12 (by decide) (by decide) rfl (so6 hb) (rf6_0 hb) ?_
    refine am_iconst (v := (nI 1)) fx dX6_findChoice_13 (by decide) ?_
    refine am_callV fx dX6_findChoice_14 mkX6_158 (ct_X1_find hb ht 1 (Nat.le_refl _) hc (hsum 1)) (so1 hb) ⟨by decide, rfl⟩ rfl (Nat.le_of_ble_eq_true rfl) ⟨by decide, by decide⟩ ⟨Nat.le_of_ble_eq_true rfl, Nat.le_of_ble_eq_true rfl⟩ rfl ?_
    rintro _ ν ⟨rfl, hSp, hPf⟩
    refine am_goto fx 36 dX6_findChoice_17 (by decide) ?_
    exact am_vret fx dX6_findChoice_36 ⟨rfl, hSp, hPf⟩
set_option maxRecDepth 100000 in
set_option maxHeartbeats 4000000 in
theorem ct_X6_findChoice3 {E : am_E} {μ : am_M} (hb : Bs μ) {S N : Nat} (ht : Tb μ S N) (hfe : Fe μ N) (hc : ¬ cnt (whB μ N) S = 0) : am_Ct E yX6_findChoice cX6_findChoice 2 none rmX6_findChoice [.ref 1, .int (nI 3)] μ (fun v μ' => v = none ∧ StP μ μ' S N) := by
  refine am_Ct.of (ls := [some (.ref 1), some (.int (nI 3))]) (by decide) (Nat.le_of_ble_eq_true rfl) rfl (fun C fx hnm => ?_)
  refine am_iload_n fx dX6_findChoice_0 rfl ?_
  refine am_iconst (v := 1) fx dX6_findChoice_1 (by decide) ?_
  refine am_icmp_ne fx 20 dX6_findChoice_2 (by decide) (fun c2 => ?_) (fun c2 => ?_)
  · skip
    refine am_iload_n fx dX6_findChoice_20 rfl ?_
    refine am_iconst (v := 3) fx dX6_findChoice_21 (by decide) ?_
    refine am_icmp_ne fx 36 dX6_findChoice_22 (by decide) (fun c22 => ?_) (fun c22 => ?_)
    · skip
      exact absurd rfl c22
    · skip
      refine am_aload_n fx dX6_findChoice_25 rfl ?_
      refine am_getR fx dX6_findChoice_26 fkX6_35 (by decide) (by decide) rfl (so6 hb) (rf6_3 hb) ?_
      refine am_aload_n fx dX6_findChoice_29 rfl ?_
      refine am_getR fx dX6_findChoice_30 fkX6_12 (by decide) (by decide) rfl (so6 hb) (rf6_0 hb) ?_
      refine am_callV fx dX6_findChoice_33 mkX6_171 (ct_X4_find hb ht (wh_ex hc) hfe) (so4 hb) ⟨by decide, rfl⟩ rfl (Nat.le_of_ble_eq_true rfl) ⟨by decide, by decide⟩ ⟨Nat.le_of_ble_eq_true rfl, Nat.le_of_ble_eq_true rfl⟩ rfl ?_
      rintro _ ν ⟨rfl, hSp, hPf⟩
      exact am_vret fx dX6_findChoice_36 ⟨rfl, hSp, hPf⟩
  · skip
    exact absurd c2 (by decide)
set_option maxRecDepth 100000 in
set_option maxHeartbeats 4000000 in
theorem ct_X6_findChoice0 {E : am_E} {μ : am_M} (hb : Bs μ) (x : Int32) (h1 : ¬ x = 1) (h3 : ¬ x = 3) : am_Ct E yX6_findChoice cX6_findChoice 2 none rmX6_findChoice [.ref 1, .int x] μ (fun v μ' => v = none ∧ μ = μ') := by
  refine am_Ct.of (ls := [some (.ref 1), some (.int x)]) (by decide) (Nat.le_of_ble_eq_true rfl) rfl (fun C fx hnm => ?_)
  refine am_iload_n fx dX6_findChoice_0 rfl ?_
  refine am_iconst (v := 1) fx dX6_findChoice_1 (by decide) ?_
  refine am_icmp_ne fx 20 dX6_findChoice_2 (by decide) (fun c2 => ?_) (fun c2 => ?_)
  · skip
    refine am_iload_n fx dX6_findChoice_20 rfl ?_
    refine am_iconst (v := 3) fx dX6_findChoice_21 (by decide) ?_
    refine am_icmp_ne fx 36 dX6_findChoice_22 (by decide) (fun c22 => ?_) (fun c22 => ?_)
    · skip
      exact am_vret fx dX6_findChoice_36 ⟨rfl, rfl⟩
    · skip
      exact absurd c22 h3
  · skip
    exact absurd c2 h1
set_option maxRecDepth 100000 in
set_option maxHeartbeats 4000000 in
theorem ct_X6_chosenFor0 {E : am_E} {μ : am_M} (hb : Bs μ) {S N : Nat} (ht : Tb μ S N) (hv : Tv μ S N) (i : Nat) (hi : i < N) : am_Ct E yX6_chosenFor cX6_chosenFor 3 (some .int) rmX6_chosenFor [.ref 1, .int (nI 0), .int (nI i)] μ (fun v μ' => v = some (.int (enO (-1) (pkF μ S N i))) ∧ μ = μ') := by
  refine am_Ct.of (ls := [some (.ref 1), some (.int (nI 0)), some (.int (nI i))]) (by decide) (Nat.le_of_ble_eq_true rfl) rfl (fun C fx hnm => ?_)
  refine am_iload_n fx dX6_chosenFor_0 rfl ?_
  skip
  · refine am_tabIn fx 28 dX6_chosenFor_1 (by decide) (by decide) rfl (by decide) ?_
    refine am_aload_n fx dX6_chosenFor_28 rfl ?_
    refine am_iload_n fx dX6_chosenFor_29 rfl ?_
    refine am_callV fx dX6_chosenFor_30 mkX6_168 (ct_X6_pickFor hb ht hv i hi) (so6 hb) ⟨by decide, rfl⟩ rfl (Nat.le_of_ble_eq_true rfl) ⟨by decide, by decide⟩ ⟨Nat.le_of_ble_eq_true rfl, Nat.le_of_ble_eq_true rfl⟩ rfl ?_
    rintro _ _ ⟨rfl, rfl⟩
    exact am_iret fx dX6_chosenFor_33 ⟨rfl, rfl⟩
set_option maxRecDepth 100000 in
set_option maxHeartbeats 4000000 in
theorem ct_X6_chosenFor1 {E : am_E} {μ : am_M} (hb : Bs μ) (i : Nat) (hk : mm_I μ 25 5 = nI 1) : am_Ct E yX6_chosenFor cX6_chosenFor 3 (some .int) rmX6_chosenFor [.ref 1, .int (nI 1), .int (nI i)] μ (fun v μ' => v = some (.int (mm_I μ 28 0)) ∧ μ = μ') := by
  refine am_Ct.of (ls := [some (.ref 1), some (.int (nI 1)), some (.int (nI i))]) (by decide) (Nat.le_of_ble_eq_true rfl) rfl (fun C fx hnm => ?_)
  refine am_iload_n fx dX6_chosenFor_0 rfl ?_
  skip
  · refine am_tabIn fx 34 dX6_chosenFor_1 (by decide) (by decide) rfl (by decide) ?_
    refine am_aload_n fx dX6_chosenFor_34 rfl ?_
    refine am_getR fx dX6_chosenFor_35 fkX6_28 (by decide) (by decide) rfl (so6 hb) (rf6_2 hb) ?_
    refine am_iconst (v := (nI 0)) fx dX6_chosenFor_38 (by decide) ?_
    refine am_callV fx dX6_chosenFor_39 mkX6_165 (ct_X1_memberAt hb 0 1 (by decide) hk (by decide)) (so1 hb) ⟨by decide, rfl⟩ rfl (Nat.le_of_ble_eq_true rfl) ⟨by decide, by decide⟩ ⟨Nat.le_of_ble_eq_true rfl, Nat.le_of_ble_eq_true rfl⟩ rfl ?_
    rintro _ _ ⟨rfl, rfl⟩
    exact am_iret fx dX6_chosenFor_42 ⟨rfl, rfl⟩
set_option maxRecDepth 100000 in
set_option maxHeartbeats 4000000 in
theorem ct_X6_chosenFor2 {E : am_E} {μ : am_M} (hb : Bs μ) {S N : Nat} (ht : Tb μ S N) (hv : Tv μ S N) (i : Nat) (hi : i < N) : am_Ct E yX6_chosenFor cX6_chosenFor 3 (some .int) rmX6_chosenFor [.ref 1, .int (nI 2), .int (nI i)] μ (fun v μ' => v = some (.int (enO (-1) (bsF μ S N i))) ∧ μ = μ') := by
  refine am_Ct.of (ls := [some (.ref 1), some (.int (nI 2)), some (.int (nI i))]) (by decide) (Nat.le_of_ble_eq_true rfl) rfl (fun C fx hnm => ?_)
  refine am_iload_n fx dX6_chosenFor_0 rfl ?_
  skip
  · refine am_tabIn fx 43 dX6_chosenFor_1 (by decide) (by decide) rfl (by decide) ?_
    refine am_aload_n fx dX6_chosenFor_43 rfl ?_
    refine am_getR fx dX6_chosenFor_44 fkX6_12 (by decide) (by decide) rfl (so6 hb) (rf6_0 hb) ?_
    refine am_iload_n fx dX6_chosenFor_47 rfl ?_
    refine am_callV fx dX6_chosenFor_48 mkX6_216 (ct_X5_bestOn hb ht i hi (fun s hs => hv.1 s i hs hi)) (so5 hb) ⟨by decide, rfl⟩ rfl (Nat.le_of_ble_eq_true rfl) ⟨by decide, by decide⟩ ⟨Nat.le_of_ble_eq_true rfl, Nat.le_of_ble_eq_true rfl⟩ rfl ?_
    rintro _ _ ⟨rfl, rfl⟩
    exact am_iret fx dX6_chosenFor_51 ⟨rfl, rfl⟩
set_option maxRecDepth 100000 in
set_option maxHeartbeats 4000000 in
theorem ct_X6_chosenFor3 {E : am_E} {μ : am_M} (hb : Bs μ) {S N : Nat} (ht : Tb μ S N) (i : Nat) (hi : i < N) {fe : Nat} (hf : mm_I μ 43 2 = nI fe) (hf2 : fe < 2) : am_Ct E yX6_chosenFor cX6_chosenFor 3 (some .int) rmX6_chosenFor [.ref 1, .int (nI 3), .int (nI i)] μ (fun v μ' => v = some (.int (if mm_I μ (18 + fe) i < mm_I μ 43 3 then mm_I μ 43 4 else mm_I μ 43 5)) ∧ μ = μ') := by
  refine am_Ct.of (ls := [some (.ref 1), some (.int (nI 3)), some (.int (nI i))]) (by decide) (Nat.le_of_ble_eq_true rfl) rfl (fun C fx hnm => ?_)
  refine am_iload_n fx dX6_chosenFor_0 rfl ?_
  skip
  · refine am_tabOut fx 52 dX6_chosenFor_1 (by decide) (by decide) ?_
    refine am_aload_n fx dX6_chosenFor_52 rfl ?_
    refine am_getR fx dX6_chosenFor_53 fkX6_35 (by decide) (by decide) rfl (so6 hb) (rf6_3 hb) ?_
    refine am_aload_n fx dX6_chosenFor_56 rfl ?_
    refine am_getR fx dX6_chosenFor_57 fkX6_12 (by decide) (by decide) rfl (so6 hb) (rf6_0 hb) ?_
    refine am_iload_n fx dX6_chosenFor_60 rfl ?_
    refine am_callV fx dX6_chosenFor_61 mkX6_219 (ct_X4_settingFor hb ht i fe hi hf hf2) (so4 hb) ⟨by decide, rfl⟩ rfl (Nat.le_of_ble_eq_true rfl) ⟨by decide, by decide⟩ ⟨Nat.le_of_ble_eq_true rfl, Nat.le_of_ble_eq_true rfl⟩ rfl ?_
    rintro _ _ ⟨rfl, rfl⟩
    exact am_iret fx dX6_chosenFor_64 ⟨rfl, rfl⟩
set_option maxRecDepth 100000 in
set_option maxHeartbeats 4000000 in
theorem ct_X6_heldOutN {E : am_E} {μ : am_M} (hb : Bs μ) {S N : Nat} (ht : Tb μ S N) (x : Int32) (hno : ¬ (0 ≤ x ∧ x ≤ 3) ∨ cnt (whB μ N) S = 0) : am_Ct E yX6_heldOut cX6_heldOut 5 (some .int) rmX6_heldOut [.ref 1, .int x] μ (fun v μ' => v = some (.int (if 0 ≤ x ∧ x ≤ 3 then -3 else -2)) ∧ μ = μ') := by
  refine am_Ct.of (ls := [some (.ref 1), some (.int x), none, none, none]) (by decide) (Nat.le_of_ble_eq_true rfl) rfl (fun C fx hnm => ?_)
  have hS := ht.s
  have hN := ht.n
  have hcw := cw_cnt μ N S
  have hcS := cnt_le (whB μ N) S
  refine am_iload_n fx dX6_heldOut_0 rfl ?_
  refine am_iconst (v := 0) fx dX6_heldOut_1 (by decide) ?_
  refine am_iconst (v := 3) fx dX6_heldOut_2 (by decide) ?_
  refine am_callS fx dX6_heldOut_3 mkX6_47 (ct_X6_isWithin hb _ _ _) rfl (Nat.le_of_ble_eq_true rfl) ⟨by decide, by decide⟩ ⟨Nat.le_of_ble_eq_true rfl, Nat.le_of_ble_eq_true rfl⟩ rfl ?_
  rintro _ _ ⟨rfl, rfl⟩
  refine am_if_ne fx 12 dX6_heldOut_6 (by decide) (fun c6 => ?_) (fun c6 => ?_)
  · try simp (disch := omega) only [bz_0, Classical.not_not, Int32.not_le, Int32.not_lt, Nat.not_le, Nat.not_lt, nI_leI, nI_ltI, nI_eq, nI_le0, nI_lt0] at c6
    refine am_aload_n fx dX6_heldOut_12 rfl ?_
    refine am_getR fx dX6_heldOut_13 fkX6_12 (by decide) (by decide) rfl (so6 hb) (rf6_0 hb) ?_
    refine am_callV fx dX6_heldOut_16 mkX6_155 (ct_X5_countWhole hb ht) (so5 hb) ⟨by decide, rfl⟩ rfl (Nat.le_of_ble_eq_true rfl) ⟨by decide, by decide⟩ ⟨Nat.le_of_ble_eq_true rfl, Nat.le_of_ble_eq_true rfl⟩ rfl ?_
    rintro _ _ ⟨rfl, rfl⟩
    rw [hcw]
    refine am_if_ne fx 25 dX6_heldOut_19 (by decide) (fun c19 => ?_) (fun c19 => ?_)
    · skip
      exact absurd (by rw [hno.resolve_left (fun z => z c6)]; rfl) c19
    · skip
      refine am_bipush (v := (-3)) fx dX6_heldOut_22 (by decide) ?_
      exact am_iret fx dX6_heldOut_24 ⟨by rw [if_pos c6], rfl⟩
  · try simp (disch := omega) only [bz_0, Classical.not_not, Int32.not_le, Int32.not_lt, Nat.not_le, Nat.not_lt, nI_leI, nI_ltI, nI_eq, nI_le0, nI_lt0] at c6
    refine am_bipush (v := (-2)) fx dX6_heldOut_9 (by decide) ?_
    exact am_iret fx dX6_heldOut_11 ⟨by rw [if_neg c6], rfl⟩
set_option maxRecDepth 100000 in
set_option maxHeartbeats 4000000 in
theorem ct_X6_heldOutG {E : am_E} {μ : am_M} (hb : Bs μ) {S N : Nat} (ht : Tb μ S N) (x : Int32) (hx : 0 ≤ x ∧ x ≤ 3) (hcn : ¬ cnt (whB μ N) S = 0) (P : am_M → Prop) (ch : am_M → Nat → Int32) (hfc : am_Ct E yX6_findChoice cX6_findChoice 2 none rmX6_findChoice [.ref 1, .int x] μ (fun v μ' => v = none ∧ P μ')) (hP : ∀ ν, P ν → Fr μ ν ∧ Tb ν S N ∧ (∀ i, mm_I ν 20 i = mm_I μ 20 i)) (hch : ∀ ν, P ν → ∀ i, i < N → mm_I μ 20 i = 0 → am_Ct E yX6_chosenFor cX6_chosenFor 3 (some .int) rmX6_chosenFor [.ref 1, .int x, .int (nI i)] ν (fun v μ' => v = some (.int (ch ν i)) ∧ ν = μ')) : am_Ct E yX6_heldOut cX6_heldOut 5 (some .int) rmX6_heldOut [.ref 1, .int x] μ (fun v μ' => P μ' ∧ ((∃ i, i < N ∧ mm_I μ 20 i = 0 ∧ ch μ' i = -1 ∧ v = some (.int (-3))) ∨ ((∀ i, i < N → mm_I μ 20 i = 0 → ¬ ch μ' i = -1) ∧ v = some (.int (smQ (fun i => decide (mm_I μ 20 i = 0)) (fun i => co μ' S N (ch μ' i) (nI i)) N))))) := by
  refine am_Ct.of (ls := [some (.ref 1), some (.int x), none, none, none]) (by decide) (Nat.le_of_ble_eq_true rfl) rfl (fun C fx hnm => ?_)
  have hS := ht.s
  have hN := ht.n
  have hcw := cw_cnt μ N S
  have hcS := cnt_le (whB μ N) S
  refine am_iload_n fx dX6_heldOut_0 rfl ?_
  refine am_iconst (v := 0) fx dX6_heldOut_1 (by decide) ?_
  refine am_iconst (v := 3) fx dX6_heldOut_2 (by decide) ?_
  refine am_callS fx dX6_heldOut_3 mkX6_47 (ct_X6_isWithin hb _ _ _) rfl (Nat.le_of_ble_eq_true rfl) ⟨by decide, by decide⟩ ⟨Nat.le_of_ble_eq_true rfl, Nat.le_of_ble_eq_true rfl⟩ rfl ?_
  rintro _ _ ⟨rfl, rfl⟩
  refine am_if_ne fx 12 dX6_heldOut_6 (by decide) (fun c6 => ?_) (fun c6 => ?_)
  · skip
    refine am_aload_n fx dX6_heldOut_12 rfl ?_
    refine am_getR fx dX6_heldOut_13 fkX6_12 (by decide) (by decide) rfl (so6 hb) (rf6_0 hb) ?_
    refine am_callV fx dX6_heldOut_16 mkX6_155 (ct_X5_countWhole hb ht) (so5 hb) ⟨by decide, rfl⟩ rfl (Nat.le_of_ble_eq_true rfl) ⟨by decide, by decide⟩ ⟨Nat.le_of_ble_eq_true rfl, Nat.le_of_ble_eq_true rfl⟩ rfl ?_
    rintro _ _ ⟨rfl, rfl⟩
    rw [hcw]
    refine am_if_ne fx 25 dX6_heldOut_19 (by decide) (fun c19 => ?_) (fun c19 => ?_)
    · skip
      refine am_aload_n fx dX6_heldOut_25 rfl ?_
      refine am_iload_n fx dX6_heldOut_26 rfl ?_
      refine am_callV fx dX6_heldOut_27 mkX6_187 hfc (so6 hb) ⟨by decide, rfl⟩ rfl (Nat.le_of_ble_eq_true rfl) ⟨by decide, by decide⟩ ⟨Nat.le_of_ble_eq_true rfl, Nat.le_of_ble_eq_true rfl⟩ rfl ?_
      rintro _ ν ⟨rfl, hPn⟩
      obtain ⟨hFr, ht2, h20⟩ := hP ν hPn
      have hb2 : Bs ν := hb.fr hFr
      refine am_iconst (v := 0) fx dX6_heldOut_30 (by decide) ?_
      refine am_istore_n fx dX6_heldOut_31 (by decide) rfl ?_
      refine am_iconst (v := 0) fx dX6_heldOut_32 (by decide) ?_
      refine am_istore_n fx dX6_heldOut_33 (by decide) rfl ?_
      have lp34 : ∀ (mz : Nat) (r : Nat), N - r = mz → r ≤ N → (∀ i, i < r → mm_I μ 20 i = 0 → ¬ ch ν i = -1) → am_W E C (am_MQ E C (fun v μ' => P μ' ∧ ((∃ i, i < N ∧ mm_I μ 20 i = 0 ∧ ch μ' i = -1 ∧ v = some (.int (-3))) ∨ ((∀ i, i < N → mm_I μ 20 i = 0 → ¬ ch μ' i = -1) ∧ v = some (.int (smQ (fun i => decide (mm_I μ 20 i = 0)) (fun i => co μ' S N (ch μ' i) (nI i)) N))))) (rmX6_heldOut).cells (rmX6_heldOut).slots) ν 0 0 34 [some (.ref 1), some (.int x), some (.int (smQ (fun i => decide (mm_I μ 20 i = 0)) (fun i => co ν S N (ch ν i) (nI i)) r)), some (.int (nI r)), none] [] := by
        intro mz
        induction mz using Nat.strongRecOn with
        | ind mz ih =>
          intro r hz hrN hno
          refine am_iload_n fx dX6_heldOut_34 rfl ?_
          refine am_aload_n fx dX6_heldOut_35 rfl ?_
          refine am_getR fx dX6_heldOut_36 fkX6_12 (by decide) (by decide) rfl (so6 hb2) (rf6_0 hb2) ?_
          refine am_getI fx dX6_heldOut_39 fkX6_190 (by decide) (by decide) rfl (so5 hb2) ht2.2.1 ?_
          refine am_icmp_ge fx 92 dX6_heldOut_42 (by decide) (fun c42 => ?_) (fun c42 => ?_)
          · try simp (disch := omega) only [bz_0, Classical.not_not, Int32.not_le, Int32.not_lt, Nat.not_le, Nat.not_lt, nI_leI, nI_ltI, nI_eq, nI_le0, nI_lt0] at c42
            refine am_iload_n fx dX6_heldOut_92 rfl ?_
            exact am_iret fx dX6_heldOut_93 ⟨hPn, Or.inr ⟨fun i hi => hno i (by omega), by rw [show N = r by omega]⟩⟩
          · try simp (disch := omega) only [bz_0, Classical.not_not, Int32.not_le, Int32.not_lt, Nat.not_le, Nat.not_lt, nI_leI, nI_ltI, nI_eq, nI_le0, nI_lt0] at c42
            refine am_aload_n fx dX6_heldOut_45 rfl ?_
            refine am_getR fx dX6_heldOut_46 fkX6_12 (by decide) (by decide) rfl (so6 hb2) (rf6_0 hb2) ?_
            refine am_iload_n fx dX6_heldOut_49 rfl ?_
            refine am_callV fx dX6_heldOut_50 mkX6_193 (ct_X5_isLearning hb2 ht2 r (by omega)) (so5 hb2) ⟨by decide, rfl⟩ rfl (Nat.le_of_ble_eq_true rfl) ⟨by decide, by decide⟩ ⟨Nat.le_of_ble_eq_true rfl, Nat.le_of_ble_eq_true rfl⟩ rfl ?_
            rintro _ _ ⟨rfl, rfl⟩
            rw [h20]
            refine am_if_ne fx 86 dX6_heldOut_53 (by decide) (fun c53 => ?_) (fun c53 => ?_)
            · skip
              have c53 : ¬ mm_I μ 20 r = 0 := Classical.not_not.mp (fun z => c53 (bz_0.mpr z))
              first | refine am_iinc fx dX6_heldOut_86 rfl (nI_inc _) (by decide) rfl ?_ | refine am_iinc fx dX6_heldOut_86 rfl rfl (by decide) rfl ?_
              refine am_goto fx 34 dX6_heldOut_89 (by decide) ?_
              refine am_sub [true, true, true, true, false] rfl ?_
              have e1 : smQ (fun i => decide (mm_I μ 20 i = 0)) (fun i => co ν S N (ch ν i) (nI i)) (r + 1) = smQ (fun i => decide (mm_I μ 20 i = 0)) (fun i => co ν S N (ch ν i) (nI i)) r := by
                show smQ (fun i => decide (mm_I μ 20 i = 0)) (fun i => co ν S N (ch ν i) (nI i)) r + (if decide (mm_I μ 20 r = 0) = true then _ else 0) = _
                rw [if_neg (by simp [c53]), Int32.add_zero]
              rw [← e1]
              exact ih (N - (r + 1)) (by omega) (r + 1) rfl (by omega) (fun i hi h0 => by rcases Nat.lt_or_ge i r with z | z; exact hno i z h0; rw [show i = r by omega] at h0; exact absurd h0 c53)
            · skip
              have c53 : mm_I μ 20 r = 0 := Classical.not_not.mp (bz_0.mp c53)
              refine am_aload_n fx dX6_heldOut_56 rfl ?_
              refine am_iload_n fx dX6_heldOut_57 rfl ?_
              refine am_iload_n fx dX6_heldOut_58 rfl ?_
              refine am_callV fx dX6_heldOut_59 mkX6_196 (hch ν hPn r (by omega) c53) (so6 hb2) ⟨by decide, rfl⟩ rfl (Nat.le_of_ble_eq_true rfl) ⟨by decide, by decide⟩ ⟨Nat.le_of_ble_eq_true rfl, Nat.le_of_ble_eq_true rfl⟩ rfl ?_
              rintro _ _ ⟨rfl, rfl⟩
              refine am_istore fx dX6_heldOut_62 (by decide) rfl ?_
              refine am_iload fx dX6_heldOut_64 rfl ?_
              refine am_iconst (v := (-1)) fx dX6_heldOut_66 (by decide) ?_
              refine am_icmp_ne fx 73 dX6_heldOut_67 (by decide) (fun c67 => ?_) (fun c67 => ?_)
              · skip
                refine am_iload_n fx dX6_heldOut_73 rfl ?_
                refine am_aload_n fx dX6_heldOut_74 rfl ?_
                refine am_getR fx dX6_heldOut_75 fkX6_12 (by decide) (by decide) rfl (so6 hb2) (rf6_0 hb2) ?_
                refine am_iload fx dX6_heldOut_78 rfl ?_
                refine am_iload_n fx dX6_heldOut_80 rfl ?_
                refine am_callV fx dX6_heldOut_81 mkX6_63 (ct_X5_costAt hb2 ht2 _ _) (so5 hb2) ⟨by decide, rfl⟩ rfl (Nat.le_of_ble_eq_true rfl) ⟨by decide, by decide⟩ ⟨Nat.le_of_ble_eq_true rfl, Nat.le_of_ble_eq_true rfl⟩ rfl ?_
                rintro _ _ ⟨rfl, rfl⟩
                refine am_iadd fx dX6_heldOut_84 ?_
                refine am_istore_n fx dX6_heldOut_85 (by decide) rfl ?_
                first | refine am_iinc fx dX6_heldOut_86 rfl (nI_inc _) (by decide) rfl ?_ | refine am_iinc fx dX6_heldOut_86 rfl rfl (by decide) rfl ?_
                refine am_goto fx 34 dX6_heldOut_89 (by decide) ?_
                refine am_sub [true, true, true, true, false] rfl ?_
                have e1 : smQ (fun i => decide (mm_I μ 20 i = 0)) (fun i => co ν S N (ch ν i) (nI i)) (r + 1) = smQ (fun i => decide (mm_I μ 20 i = 0)) (fun i => co ν S N (ch ν i) (nI i)) r + co ν S N (ch ν r) (nI r) := by
                  show smQ (fun i => decide (mm_I μ 20 i = 0)) (fun i => co ν S N (ch ν i) (nI i)) r + (if decide (mm_I μ 20 r = 0) = true then _ else 0) = _
                  rw [if_pos (by simp [c53])]
                rw [← e1]
                exact ih (N - (r + 1)) (by omega) (r + 1) rfl (by omega) (fun i hi h0 => by rcases Nat.lt_or_ge i r with z | z; exact hno i z h0; rw [show i = r by omega]; exact c67)
              · skip
                refine am_bipush (v := (-3)) fx dX6_heldOut_70 (by decide) ?_
                exact am_iret fx dX6_heldOut_72 ⟨hPn, Or.inl ⟨r, by omega, c53, c67, rfl⟩⟩
      refine am_sub [true, true, true, true, false] rfl ?_
      exact lp34 _ 0 rfl (Nat.zero_le _) (fun i hi => absurd hi (by omega))
    · skip
      exact absurd c19 (nI_ne0 (by omega) (by omega))
  · skip
    exact absurd hx (bz_0.mp c6)
