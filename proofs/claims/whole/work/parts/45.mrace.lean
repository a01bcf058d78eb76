/-! the model: a race begins -/
theorem sI_self (μ : am_M) (a k : Nat) {v : Int32} (h : mm_I μ a k = v) : mm_sI μ a k v = μ := am_ext rfl (fun a' k' => by
  rw [mI_sI]
  by_cases e : a' = a ∧ k' = k
  · rw [if_pos e, e.1, e.2, h]
  · rw [if_neg e]) (fun _ _ => rfl) rfl rfl
theorem shuf_congr {n : Nat} : ∀ (k : Nat) (x : Int32) (g g' : Nat → Int32), k < n → (∀ i, i < n → g i = g' i) → ∀ i, i < n → shuf k x g i = shuf k x g' i
  | 0, _, _, _, _, h => h
  | k + 1, x, g, g', hk, h => by
    have hp : poX (stX x) (k + 2) < k + 2 := Nat.mod_lt _ (by omega)
    simp only [shuf]
    refine shuf_congr k _ _ _ (by omega) (fun i hi => ?_)
    simp only [upd]
    rw [h (k + 1) (by omega), h (poX (stX x) (k + 2)) (by omega), h i hi]
theorem shuf_in {n : Nat} {P : Int32 → Prop} : ∀ (k : Nat) (x : Int32) (g : Nat → Int32), k < n → (∀ i, i < n → P (g i)) → ∀ i, i < n → P (shuf k x g i)
  | 0, _, _, _, h => h
  | k + 1, x, g, hk, h => by
    have hp : poX (stX x) (k + 2) < k + 2 := Nat.mod_lt _ (by omega)
    simp only [shuf]
    refine shuf_in k _ _ (by omega) (fun i hi => ?_)
    simp only [upd]
    split
    · exact h _ (by omega)
    · split
      · exact h _ (by omega)
      · exact h i hi
theorem od_st {μ : am_M} {b : Nat → Bool} {r : Nat} (h : b r = true) : mm_sI (mm_sI (mm_sI (mm_fI μ 50 (fil b (mm_I μ 50) r)) 46 13 (nI (cnt b r))) 50 (cnt b r) (nI r)) 46 13 (nI (cnt b r + 1)) = mm_sI (mm_fI μ 50 (fil b (mm_I μ 50) (r + 1))) 46 13 (nI (cnt b (r + 1))) := by
  rw [cnt_t h]
  refine am_ext rfl (fun a k => ?_) (fun _ _ => rfl) rfl rfl
  simp only [mI_sI, mI_fI, fil, if_pos h, upd]
  by_cases h1 : a = 46 ∧ k = 13
  · rw [if_pos h1, if_pos h1]
  · rw [if_neg h1, if_neg h1]
    by_cases h2 : a = 50
    · subst h2
      by_cases h3 : k = cnt b r
      · simp [h3]
      · simp [h3]
    · simp [h2]
      exact fun e1 e2 => absurd ⟨e1, e2⟩ h1
theorem kk_le0 : ∀ kk, kk < 25 → (nI kk - 1 ≤ 0 ↔ kk ≤ 1) := by decide
theorem nI_k1 {kk : Nat} (h : 0 < kk) : nI kk - 1 + 1 = nI kk := nI_m1p1 h
theorem cnt_all {b : Nat → Bool} (h : ∀ s, b s = true) : ∀ n, cnt b n = n
  | 0 => rfl
  | n + 1 => by rw [cnt_t (h n), cnt_all h n]
def RcM (μ μ' : am_M) (S N : Nat) (lr : Nat → Bool) (x0 x1 x2 x3 x4 x5 seed : Int32) : Prop := Fr μ μ' ∧ (∀ a k, a ≠ 46 → a ≠ 50 → a ≠ 51 → mm_I μ' a k = mm_I μ a k) ∧ (∀ a k, mm_L μ' a k = mm_L μ a k) ∧ (∀ k, k ≠ 0 → k < 6 → mm_I μ' 46 k = mm_I μ 46 k) ∧ mm_I μ' 46 6 = x0 ∧ mm_I μ' 46 7 = x1 ∧ mm_I μ' 46 8 = x2 ∧ mm_I μ' 46 9 = x3 ∧ mm_I μ' 46 10 = x4 ∧ mm_I μ' 46 11 = x5 ∧ mm_I μ' 46 12 = nI S ∧ mm_I μ' 46 13 = nI (cnt lr N) ∧ mm_I μ' 46 15 = nI 0 ∧ mm_I μ' 46 16 = nI 0 ∧ mm_I μ' 46 17 = ovF (nI S) x4 (nI 0) (nI (cnt lr N)) x5 (nI 0) ∧ mm_I μ' 46 18 = nI 0 ∧ (∀ s, s < 12 → mm_I μ' 51 s = 0) ∧ (∀ i, i < (cnt lr N) → mm_I μ' 50 i = shuf ((cnt lr N) - 1) seed (fil lr (fun _ => 0) N) i)
set_option maxRecDepth 100000 in
set_option maxHeartbeats 1600000 in
theorem ct_X7_race {E : am_E} {μ : am_M} (hb : Bs μ) {S N : Nat} {cs : Nat → Nat → Int32} (hm : Mt μ S N cs) {lr : Nat → Bool} (hh : ∀ i, i < N → mm_I μ 48 i = bz (¬ lr i = true)) (x0 x1 x2 x3 x4 x5 seed : Int32) : am_Ct E yX7_race cX7_race 12 (some .int) rmX7_race [.ref 46, .int x0, .int x1, .int x2, .int x3, .int x4, .int x5, .int seed] μ (fun v μ' => (¬ ((0 ≤ x0 ∧ x0 ≤ 1) ∧ (1 ≤ x1 ∧ x1 ≤ nI 24) ∧ (1 ≤ x2 ∧ x2 ≤ nI 1000) ∧ (1 ≤ x3 ∧ x3 ≤ nI 1000) ∧ x2 ≤ x3 ∧ (1 ≤ x4 ∧ x4 ≤ nI 12) ∧ (0 ≤ x5 ∧ x5 ≤ nI 1000)) ∧ v = some (.int (-2)) ∧ μ' = mm_sI μ 46 0 0) ∨ (((0 ≤ x0 ∧ x0 ≤ 1) ∧ (1 ≤ x1 ∧ x1 ≤ nI 24) ∧ (1 ≤ x2 ∧ x2 ≤ nI 1000) ∧ (1 ≤ x3 ∧ x3 ≤ nI 1000) ∧ x2 ≤ x3 ∧ (1 ≤ x4 ∧ x4 ≤ nI 12) ∧ (0 ≤ x5 ∧ x5 ≤ nI 1000)) ∧ S = 0 ∧ v = some (.int (-3)) ∧ μ' = mm_sI μ 46 0 0) ∨ (((0 ≤ x0 ∧ x0 ≤ 1) ∧ (1 ≤ x1 ∧ x1 ≤ nI 24) ∧ (1 ≤ x2 ∧ x2 ≤ nI 1000) ∧ (1 ≤ x3 ∧ x3 ≤ nI 1000) ∧ x2 ≤ x3 ∧ (1 ≤ x4 ∧ x4 ≤ nI 12) ∧ (0 ≤ x5 ∧ x5 ≤ nI 1000)) ∧ 0 < S ∧ v = some (.int (nI S)) ∧ RcM μ μ' S N lr x0 x1 x2 x3 x4 x5 seed)) := by
  refine am_Ct.of (ls := [some (.ref 46), some (.int x0), some (.int x1), some (.int x2), some (.int x3), some (.int x4), some (.int x5), some (.int seed), none, none, none, none]) (by decide) (Nat.le_of_ble_eq_true rfl) rfl (fun C fx hnm => ?_)
  have hS := hm.s
  have hN := hm.n
  have hcl := cnt_le lr N
  refine am_aload_n fx dX7_race_0 rfl ?_
  refine am_iconst (v := 0) fx dX7_race_1 (by decide) ?_
  refine am_putI fx dX7_race_2 fkX7_43 (by decide) (by decide) rfl rfl (so7 hb) ?_
  have hb : Bs (mm_sI μ 46 0 0) := hb.fr (Fr.sI _ _ _ _)
  have hm : Mt (mm_sI μ 46 0 0) S N cs := hm.keep (mI_ne (Or.inr (by decide))) (mI_ne (Or.inr (by decide))) (fun k => mI_ne (Or.inl (by decide)))
  have hh0 : ∀ i, i < N → mm_I (mm_sI μ 46 0 0) 48 i = bz (¬ lr i = true) := fun i hi => (mI_ne (Or.inl (by decide))).trans (hh i hi)
  obtain ⟨μ0, hM0⟩ : ∃ z, z = mm_sI μ 46 0 0 := ⟨_, rfl⟩
  rw [← hM0] at hb hm hh0
  refine am_mem hM0.symm ?_
  refine am_iload_n fx dX7_race_5 rfl ?_
  refine am_iconst (v := 0) fx dX7_race_6 (by decide) ?_
  refine am_iconst (v := 1) fx dX7_race_7 (by decide) ?_
  refine am_callS fx dX7_race_8 mkX7_49 (ct_X7_in _ _ _) rfl (Nat.le_of_ble_eq_true rfl) ⟨by decide, by decide⟩ ⟨Nat.le_of_ble_eq_true rfl, Nat.le_of_ble_eq_true rfl⟩ rfl ?_
  rintro _ _ ⟨rfl, rfl⟩
  refine am_if_eq fx 76 dX7_race_11 (by decide) (fun c11 => ?_) (fun c11 => ?_)
  · try simp (disch := omega) only [bz_0, Classical.not_not, Int32.not_le, Int32.not_lt, Nat.not_le, Nat.not_lt, nI_leI, nI_ltI, nI_eq, nI_le0, nI_lt0] at c11
    refine am_bipush (v := (-2)) fx dX7_race_76 (by decide) ?_
    exact am_iret fx dX7_race_78 (Or.inl ⟨fun h => c11 h.1, rfl, hM0⟩)
  · try simp (disch := omega) only [bz_0, Classical.not_not, Int32.not_le, Int32.not_lt, Nat.not_le, Nat.not_lt, nI_leI, nI_ltI, nI_eq, nI_le0, nI_lt0] at c11
    refine am_iload_n fx dX7_race_14 rfl ?_
    refine am_iconst (v := 1) fx dX7_race_15 (by decide) ?_
    refine am_bipush (v := (nI 24)) fx dX7_race_16 (by decide) ?_
    refine am_callS fx dX7_race_18 mkX7_49 (ct_X7_in _ _ _) rfl (Nat.le_of_ble_eq_true rfl) ⟨by decide, by decide⟩ ⟨Nat.le_of_ble_eq_true rfl, Nat.le_of_ble_eq_true rfl⟩ rfl ?_
    rintro _ _ ⟨rfl, rfl⟩
    refine am_if_eq fx 76 dX7_race_21 (by decide) (fun c21 => ?_) (fun c21 => ?_)
    · try simp (disch := omega) only [bz_0, Classical.not_not, Int32.not_le, Int32.not_lt, Nat.not_le, Nat.not_lt, nI_leI, nI_ltI, nI_eq, nI_le0, nI_lt0] at c21
      refine am_bipush (v := (-2)) fx dX7_race_76 (by decide) ?_
      exact am_iret fx dX7_race_78 (Or.inl ⟨fun h => c21 h.2.1, rfl, hM0⟩)
    · try simp (disch := omega) only [bz_0, Classical.not_not, Int32.not_le, Int32.not_lt, Nat.not_le, Nat.not_lt, nI_leI, nI_ltI, nI_eq, nI_le0, nI_lt0] at c21
      refine am_iload_n fx dX7_race_24 rfl ?_
      refine am_iconst (v := 1) fx dX7_race_25 (by decide) ?_
      refine am_sipush (v := (nI 1000)) fx dX7_race_26 (by decide) ?_
      refine am_callS fx dX7_race_29 mkX7_49 (ct_X7_in _ _ _) rfl (Nat.le_of_ble_eq_true rfl) ⟨by decide, by decide⟩ ⟨Nat.le_of_ble_eq_true rfl, Nat.le_of_ble_eq_true rfl⟩ rfl ?_
      rintro _ _ ⟨rfl, rfl⟩
      refine am_if_eq fx 76 dX7_race_32 (by decide) (fun c32 => ?_) (fun c32 => ?_)
      · try simp (disch := omega) only [bz_0, Classical.not_not, Int32.not_le, Int32.not_lt, Nat.not_le, Nat.not_lt, nI_leI, nI_ltI, nI_eq, nI_le0, nI_lt0] at c32
        refine am_bipush (v := (-2)) fx dX7_race_76 (by decide) ?_
        exact am_iret fx dX7_race_78 (Or.inl ⟨fun h => c32 h.2.2.1, rfl, hM0⟩)
      · try simp (disch := omega) only [bz_0, Classical.not_not, Int32.not_le, Int32.not_lt, Nat.not_le, Nat.not_lt, nI_leI, nI_ltI, nI_eq, nI_le0, nI_lt0] at c32
        refine am_iload fx dX7_race_35 rfl ?_
        refine am_iconst (v := 1) fx dX7_race_37 (by decide) ?_
        refine am_sipush (v := (nI 1000)) fx dX7_race_38 (by decide) ?_
        refine am_callS fx dX7_race_41 mkX7_49 (ct_X7_in _ _ _) rfl (Nat.le_of_ble_eq_true rfl) ⟨by decide, by decide⟩ ⟨Nat.le_of_ble_eq_true rfl, Nat.le_of_ble_eq_true rfl⟩ rfl ?_
        rintro _ _ ⟨rfl, rfl⟩
        refine am_if_eq fx 76 dX7_race_44 (by decide) (fun c44 => ?_) (fun c44 => ?_)
        · try simp (disch := omega) only [bz_0, Classical.not_not, Int32.not_le, Int32.not_lt, Nat.not_le, Nat.not_lt, nI_leI, nI_ltI, nI_eq, nI_le0, nI_lt0] at c44
          refine am_bipush (v := (-2)) fx dX7_race_76 (by decide) ?_
          exact am_iret fx dX7_race_78 (Or.inl ⟨fun h => c44 h.2.2.2.1, rfl, hM0⟩)
        · try simp (disch := omega) only [bz_0, Classical.not_not, Int32.not_le, Int32.not_lt, Nat.not_le, Nat.not_lt, nI_leI, nI_ltI, nI_eq, nI_le0, nI_lt0] at c44
          refine am_iload_n fx dX7_race_47 rfl ?_
          refine am_iload fx dX7_race_48 rfl ?_
          refine am_icmp_gt fx 76 dX7_race_50 (by decide) (fun c50 => ?_) (fun c50 => ?_)
          · skip
            refine am_bipush (v := (-2)) fx dX7_race_76 (by decide) ?_
            exact am_iret fx dX7_race_78 (Or.inl ⟨fun h => (Int32.not_le.mpr c50) h.2.2.2.2.1, rfl, hM0⟩)
          · skip
            refine am_iload fx dX7_race_53 rfl ?_
            refine am_iconst (v := 1) fx dX7_race_55 (by decide) ?_
            refine am_bipush (v := (nI 12)) fx dX7_race_56 (by decide) ?_
            refine am_callS fx dX7_race_58 mkX7_49 (ct_X7_in _ _ _) rfl (Nat.le_of_ble_eq_true rfl) ⟨by decide, by decide⟩ ⟨Nat.le_of_ble_eq_true rfl, Nat.le_of_ble_eq_true rfl⟩ rfl ?_
            rintro _ _ ⟨rfl, rfl⟩
            refine am_if_eq fx 76 dX7_race_61 (by decide) (fun c61 => ?_) (fun c61 => ?_)
            · try simp (disch := omega) only [bz_0, Classical.not_not, Int32.not_le, Int32.not_lt, Nat.not_le, Nat.not_lt, nI_leI, nI_ltI, nI_eq, nI_le0, nI_lt0] at c61
              refine am_bipush (v := (-2)) fx dX7_race_76 (by decide) ?_
              exact am_iret fx dX7_race_78 (Or.inl ⟨fun h => c61 h.2.2.2.2.2.1, rfl, hM0⟩)
            · try simp (disch := omega) only [bz_0, Classical.not_not, Int32.not_le, Int32.not_lt, Nat.not_le, Nat.not_lt, nI_leI, nI_ltI, nI_eq, nI_le0, nI_lt0] at c61
              refine am_iload fx dX7_race_64 rfl ?_
              refine am_iconst (v := 0) fx dX7_race_66 (by decide) ?_
              refine am_sipush (v := (nI 1000)) fx dX7_race_67 (by decide) ?_
              refine am_callS fx dX7_race_70 mkX7_49 (ct_X7_in _ _ _) rfl (Nat.le_of_ble_eq_true rfl) ⟨by decide, by decide⟩ ⟨Nat.le_of_ble_eq_true rfl, Nat.le_of_ble_eq_true rfl⟩ rfl ?_
              rintro _ _ ⟨rfl, rfl⟩
              refine am_if_ne fx 79 dX7_race_73 (by decide) (fun c73 => ?_) (fun c73 => ?_)
              · try simp (disch := omega) only [bz_0, Classical.not_not, Int32.not_le, Int32.not_lt, Nat.not_le, Nat.not_lt, nI_leI, nI_ltI, nI_eq, nI_le0, nI_lt0] at c73
                have hRB : ((0 ≤ x0 ∧ x0 ≤ 1) ∧ (1 ≤ x1 ∧ x1 ≤ nI 24) ∧ (1 ≤ x2 ∧ x2 ≤ nI 1000) ∧ (1 ≤ x3 ∧ x3 ≤ nI 1000) ∧ x2 ≤ x3 ∧ (1 ≤ x4 ∧ x4 ≤ nI 12) ∧ (0 ≤ x5 ∧ x5 ≤ nI 1000)) := ⟨c11, c21, c32, c44, Int32.not_lt.mp c50, c61, c73⟩
                refine am_aload_n fx dX7_race_79 rfl ?_
                refine am_getI fx dX7_race_80 fkX7_46 (by decide) (by decide) rfl (so7 hb) hm.1 ?_
                refine am_if_ne fx 89 dX7_race_83 (by decide) (fun c83 => ?_) (fun c83 => ?_)
                · skip
                  have hS0 : 0 < S := by
                    rcases Nat.eq_zero_or_pos S with z | z
                    · exact absurd (by rw [z]; rfl) c83
                    · exact z
                  refine am_aload_n fx dX7_race_89 rfl ?_
                  refine am_iload_n fx dX7_race_90 rfl ?_
                  refine am_putI fx dX7_race_91 fkX7_20 (by decide) (by decide) rfl rfl (so7 hb) ?_
                  refine am_aload_n fx dX7_race_94 rfl ?_
                  refine am_iload_n fx dX7_race_95 rfl ?_
                  refine am_putI fx dX7_race_96 fkX7_97 (by decide) (by decide) rfl rfl (so7 hb) ?_
                  refine am_aload_n fx dX7_race_99 rfl ?_
                  refine am_iload_n fx dX7_race_100 rfl ?_
                  refine am_putI fx dX7_race_101 fkX7_100 (by decide) (by decide) rfl rfl (so7 hb) ?_
                  refine am_aload_n fx dX7_race_104 rfl ?_
                  refine am_iload fx dX7_race_105 rfl ?_
                  refine am_putI fx dX7_race_107 fkX7_103 (by decide) (by decide) rfl rfl (so7 hb) ?_
                  refine am_aload_n fx dX7_race_110 rfl ?_
                  refine am_iload fx dX7_race_111 rfl ?_
                  refine am_putI fx dX7_race_113 fkX7_76 (by decide) (by decide) rfl rfl (so7 hb) ?_
                  refine am_aload_n fx dX7_race_116 rfl ?_
                  refine am_iload fx dX7_race_117 rfl ?_
                  refine am_putI fx dX7_race_119 fkX7_85 (by decide) (by decide) rfl rfl (so7 hb) ?_
                  refine am_aload_n fx dX7_race_122 rfl ?_
                  refine am_aload_n fx dX7_race_123 rfl ?_
                  refine am_getI fx dX7_race_124 fkX7_46 (by decide) (by decide) rfl (so7 hb) ((mI_ne (Or.inr (by decide))).trans ((mI_ne (Or.inr (by decide))).trans ((mI_ne (Or.inr (by decide))).trans ((mI_ne (Or.inr (by decide))).trans ((mI_ne (Or.inr (by decide))).trans ((mI_ne (Or.inr (by decide))).trans (hm.1))))))) ?_
                  refine am_putI fx dX7_race_127 fkX7_69 (by decide) (by decide) rfl rfl (so7 hb) ?_
                  refine am_aload_n fx dX7_race_130 rfl ?_
                  refine am_iconst (v := 0) fx dX7_race_131 (by decide) ?_
                  refine am_putI fx dX7_race_132 fkX7_82 (by decide) (by decide) rfl rfl (so7 hb) ?_
                  obtain ⟨Mz, hMz⟩ : ∃ z, z = mm_sI (mm_sI (mm_sI (mm_sI (mm_sI (mm_sI (mm_sI (mm_sI μ0 46 6 x0) 46 7 x1) 46 8 x2) 46 9 x3) 46 10 x4) 46 11 x5) 46 12 (nI S)) 46 13 0 := ⟨_, rfl⟩
                  refine am_mem hMz.symm ?_
                  have hfz : Fr μ0 Mz := by
                    rw [hMz]
                    exact ⟨rfl, rfl, rfl⟩
                  have hbz : Bs Mz := hb.fr hfz
                  have hLz : ∀ a k, mm_L Mz a k = mm_L μ0 a k := fun a k => by
                    rw [hMz]
                    rfl
                  have hzz : ∀ a k, a ≠ 46 → mm_I Mz a k = mm_I μ0 a k := fun a k h => by
                    rw [hMz]
                    rw [mI_ne (Or.inl h), mI_ne (Or.inl h), mI_ne (Or.inl h), mI_ne (Or.inl h), mI_ne (Or.inl h), mI_ne (Or.inl h), mI_ne (Or.inl h), mI_ne (Or.inl h)]
                  have hz6 : ∀ k, k < 6 → mm_I Mz 46 k = mm_I μ0 46 k := fun k h => by
                    rw [hMz]
                    rw [mI_ne (Or.inr (by omega)), mI_ne (Or.inr (by omega)), mI_ne (Or.inr (by omega)), mI_ne (Or.inr (by omega)), mI_ne (Or.inr (by omega)), mI_ne (Or.inr (by omega)), mI_ne (Or.inr (by omega)), mI_ne (Or.inr (by omega))]
                  have z6 : mm_I Mz 46 6 = x0 := by
                    rw [hMz]
                    rw [mI_ne (Or.inr (by decide)), mI_ne (Or.inr (by decide)), mI_ne (Or.inr (by decide)), mI_ne (Or.inr (by decide)), mI_ne (Or.inr (by decide)), mI_ne (Or.inr (by decide)), mI_ne (Or.inr (by decide)), mI_same]
                  have z7 : mm_I Mz 46 7 = x1 := by
                    rw [hMz]
                    rw [mI_ne (Or.inr (by decide)), mI_ne (Or.inr (by decide)), mI_ne (Or.inr (by decide)), mI_ne (Or.inr (by decide)), mI_ne (Or.inr (by decide)), mI_ne (Or.inr (by decide)), mI_same]
                  have z8 : mm_I Mz 46 8 = x2 := by
                    rw [hMz]
                    rw [mI_ne (Or.inr (by decide)), mI_ne (Or.inr (by decide)), mI_ne (Or.inr (by decide)), mI_ne (Or.inr (by decide)), mI_ne (Or.inr (by decide)), mI_same]
                  have z9 : mm_I Mz 46 9 = x3 := by
                    rw [hMz]
                    rw [mI_ne (Or.inr (by decide)), mI_ne (Or.inr (by decide)), mI_ne (Or.inr (by decide)), mI_ne (Or.inr (by decide)), mI_same]
                  have z10 : mm_I Mz 46 10 = x4 := by
                    rw [hMz]
                    rw [mI_ne (Or.inr (by decide)), mI_ne (Or.inr (by decide)), mI_ne (Or.inr (by decide)), mI_same]
                  have z11 : mm_I Mz 46 11 = x5 := by
                    rw [hMz]
                    rw [mI_ne (Or.inr (by decide)), mI_ne (Or.inr (by decide)), mI_same]
                  have z12 : mm_I Mz 46 12 = nI S := by
                    rw [hMz]
                    rw [mI_ne (Or.inr (by decide)), mI_same]
                  have z13 : mm_I Mz 46 13 = 0 := by
                    rw [hMz]
                    rw [mI_same]
                  refine am_iconst (v := 0) fx dX7_race_135 (by decide) ?_
                  refine am_istore fx dX7_race_136 (by decide) rfl ?_
                  have lp138 : ∀ (mz : Nat) (r : Nat), N - r = mz → r ≤ N → am_W E C (am_MQ E C (fun v μ' => (¬ ((0 ≤ x0 ∧ x0 ≤ 1) ∧ (1 ≤ x1 ∧ x1 ≤ nI 24) ∧ (1 ≤ x2 ∧ x2 ≤ nI 1000) ∧ (1 ≤ x3 ∧ x3 ≤ nI 1000) ∧ x2 ≤ x3 ∧ (1 ≤ x4 ∧ x4 ≤ nI 12) ∧ (0 ≤ x5 ∧ x5 ≤ nI 1000)) ∧ v = some (.int (-2)) ∧ μ' = mm_sI μ 46 0 0) ∨ (((0 ≤ x0 ∧ x0 ≤ 1) ∧ (1 ≤ x1 ∧ x1 ≤ nI 24) ∧ (1 ≤ x2 ∧ x2 ≤ nI 1000) ∧ (1 ≤ x3 ∧ x3 ≤ nI 1000) ∧ x2 ≤ x3 ∧ (1 ≤ x4 ∧ x4 ≤ nI 12) ∧ (0 ≤ x5 ∧ x5 ≤ nI 1000)) ∧ S = 0 ∧ v = some (.int (-3)) ∧ μ' = mm_sI μ 46 0 0) ∨ (((0 ≤ x0 ∧ x0 ≤ 1) ∧ (1 ≤ x1 ∧ x1 ≤ nI 24) ∧ (1 ≤ x2 ∧ x2 ≤ nI 1000) ∧ (1 ≤ x3 ∧ x3 ≤ nI 1000) ∧ x2 ≤ x3 ∧ (1 ≤ x4 ∧ x4 ≤ nI 12) ∧ (0 ≤ x5 ∧ x5 ≤ nI 1000)) ∧ 0 < S ∧ v = some (.int (nI S)) ∧ RcM μ μ' S N lr x0 x1 x2 x3 x4 x5 seed)) (rmX7_race).cells (rmX7_race).slots) (mm_sI (mm_fI Mz 50 (fil lr (mm_I Mz 50) r)) 46 13 (nI (cnt lr r))) 0 0 138 [some (.ref 46), some (.int x0), some (.int x1), some (.int x2), some (.int x3), some (.int x4), some (.int x5), some (.int seed), some (.int (nI r)), none, none, none] [] := by
                    intro mz
                    induction mz using Nat.strongRecOn with
                    | ind mz ih =>
                      intro r hz hr
                      have hb2 : Bs (mm_sI (mm_fI Mz 50 (fil lr (mm_I Mz 50) r)) 46 13 (nI (cnt lr r))) := hbz.fr ⟨rfl, rfl, rfl⟩
                      have e2 : mm_I (mm_sI (mm_fI Mz 50 (fil lr (mm_I Mz 50) r)) 46 13 (nI (cnt lr r))) 46 2 = nI N := (mI_ne (Or.inr (by decide))).trans ((mI_fIn (by decide)).trans ((hz6 2 (by decide)).trans hm.2.1))
                      have e13 : mm_I (mm_sI (mm_fI Mz 50 (fil lr (mm_I Mz 50) r)) 46 13 (nI (cnt lr r))) 46 13 = nI (cnt lr r) := mI_same _ _ _ _
                      have e48 : r < N → mm_I (mm_sI (mm_fI Mz 50 (fil lr (mm_I Mz 50) r)) 46 13 (nI (cnt lr r))) 48 r = bz (¬ lr r = true) := fun h => (mI_ne (Or.inl (by decide))).trans ((mI_fIn (by decide)).trans ((hzz 48 r (by decide)).trans (hh0 r h)))
                      have hcr := cnt_le lr r
                      refine am_iload fx dX7_race_138 rfl ?_
                      refine am_aload_n fx dX7_race_140 rfl ?_
                      refine am_getI fx dX7_race_141 fkX7_53 (by decide) (by decide) rfl (so7 hb2) e2 ?_
                      refine am_icmp_ge fx 184 dX7_race_144 (by decide) (fun c144 => ?_) (fun c144 => ?_)
                      · try simp (disch := omega) only [bz_0, Classical.not_not, Int32.not_le, Int32.not_lt, Nat.not_le, Nat.not_lt, nI_leI, nI_ltI, nI_eq, nI_le0, nI_lt0] at c144
                        rw [show r = N by omega]
                        obtain ⟨Mq, hMq⟩ : ∃ z, z = (mm_sI (mm_fI Mz 50 (fil lr (mm_I Mz 50) N)) 46 13 (nI (cnt lr N))) := ⟨_, rfl⟩
                        refine am_mem hMq.symm ?_
                        have hfq : Fr μ0 Mq := hfz.tr (by
                          rw [hMq]
                          exact ⟨rfl, rfl, rfl⟩)
                        have hbq : Bs Mq := hb.fr hfq
                        have hq13 : mm_I Mq 46 13 = nI (cnt lr N) := by
                          rw [hMq, mI_same]
                        have hq46 : ∀ k, k ≠ 13 → mm_I Mq 46 k = mm_I Mz 46 k := fun k hk => by
                          rw [hMq, mI_ne (Or.inr hk), mI_fIn (by decide)]
                        have hqa : ∀ a k, a ≠ 46 → a ≠ 50 → mm_I Mq a k = mm_I Mz a k := fun a k h1 h2 => by
                          rw [hMq, mI_ne (Or.inl h1), mI_fIn h2]
                        have hq50 : mm_I Mq 50 = fil lr (mm_I Mz 50) N := funext fun k => by
                          rw [hMq, mI_ne (Or.inl (by decide)), mI_fIs]
                        have hqL : ∀ a k, mm_L Mq a k = mm_L Mz a k := fun a k => by
                          rw [hMq]
                          rfl
                        refine am_iload fx dX7_race_184 rfl ?_
                        refine am_istore fx dX7_race_186 (by decide) rfl ?_
                        refine am_aload_n fx dX7_race_188 rfl ?_
                        refine am_getI fx dX7_race_189 fkX7_82 (by decide) (by decide) rfl (so7 hbq) hq13 ?_
                        refine am_iconst (v := 1) fx dX7_race_192 (by decide) ?_
                        refine am_isub fx dX7_race_193 ?_
                        refine am_istore fx dX7_race_194 (by decide) rfl ?_
                        have lp196 : ∀ (mz : Nat) (kk : Nat) (x : Int32) (g : Nat → Int32), kk = mz → kk ≤ (cnt lr N) → shuf (kk - 1) x g = (shuf ((cnt lr N) - 1) seed (fil lr (mm_I Mz 50) N)) → am_W E C (am_MQ E C (fun v μ' => (¬ ((0 ≤ x0 ∧ x0 ≤ 1) ∧ (1 ≤ x1 ∧ x1 ≤ nI 24) ∧ (1 ≤ x2 ∧ x2 ≤ nI 1000) ∧ (1 ≤ x3 ∧ x3 ≤ nI 1000) ∧ x2 ≤ x3 ∧ (1 ≤ x4 ∧ x4 ≤ nI 12) ∧ (0 ≤ x5 ∧ x5 ≤ nI 1000)) ∧ v = some (.int (-2)) ∧ μ' = mm_sI μ 46 0 0) ∨ (((0 ≤ x0 ∧ x0 ≤ 1) ∧ (1 ≤ x1 ∧ x1 ≤ nI 24) ∧ (1 ≤ x2 ∧ x2 ≤ nI 1000) ∧ (1 ≤ x3 ∧ x3 ≤ nI 1000) ∧ x2 ≤ x3 ∧ (1 ≤ x4 ∧ x4 ≤ nI 12) ∧ (0 ≤ x5 ∧ x5 ≤ nI 1000)) ∧ S = 0 ∧ v = some (.int (-3)) ∧ μ' = mm_sI μ 46 0 0) ∨ (((0 ≤ x0 ∧ x0 ≤ 1) ∧ (1 ≤ x1 ∧ x1 ≤ nI 24) ∧ (1 ≤ x2 ∧ x2 ≤ nI 1000) ∧ (1 ≤ x3 ∧ x3 ≤ nI 1000) ∧ x2 ≤ x3 ∧ (1 ≤ x4 ∧ x4 ≤ nI 12) ∧ (0 ≤ x5 ∧ x5 ≤ nI 1000)) ∧ 0 < S ∧ v = some (.int (nI S)) ∧ RcM μ μ' S N lr x0 x1 x2 x3 x4 x5 seed)) (rmX7_race).cells (rmX7_race).slots) (mm_fI Mq 50 g) 0 0 196 [some (.ref 46), some (.int x0), some (.int x1), some (.int x2), some (.int x3), some (.int x4), some (.int x5), some (.int seed), some (.int x), some (.int (nI kk - 1)), none, none] [] := by
                          intro mz
                          induction mz using Nat.strongRecOn with
                          | ind mz ih2 =>
                            intro kk x g hzk hk hg
                            have hb3 : Bs (mm_fI Mq 50 g) := hbq.fr (Fr.fI _ _ _)
                            have eo : ∀ k, mm_I (mm_fI Mq 50 g) 50 k = g k := fun k => mI_fIs _ _ _ _
                            refine am_iload fx dX7_race_196 rfl ?_
                            refine am_if_le fx 262 dX7_race_198 (by decide) (fun c198 => ?_) (fun c198 => ?_)
                            · skip
                              have c198 := (kk_le0 kk (by omega)).mp c198
                              have hgf : g = (shuf ((cnt lr N) - 1) seed (fil lr (mm_I Mz 50) N)) := by
                                rw [← hg]
                                rcases (show kk = 0 ∨ kk = 1 by omega) with rfl | rfl <;> rfl
                              refine am_aload_n fx dX7_race_262 rfl ?_
                              refine am_iconst (v := 0) fx dX7_race_263 (by decide) ?_
                              refine am_putI fx dX7_race_264 fkX7_79 (by decide) (by decide) rfl rfl (so7 hb3) ?_
                              refine am_aload_n fx dX7_race_267 rfl ?_
                              refine am_iconst (v := 0) fx dX7_race_268 (by decide) ?_
                              refine am_putI fx dX7_race_269 fkX7_88 (by decide) (by decide) rfl rfl (so7 hb3) ?_
                              obtain ⟨Mw, hMw⟩ : ∃ z, z = mm_sI (mm_sI (mm_fI Mq 50 g) 46 15 0) 46 16 0 := ⟨_, rfl⟩
                              refine am_mem hMw.symm ?_
                              have hfw : Fr μ0 Mw := hfq.tr (by
                                rw [hMw]
                                exact ⟨rfl, rfl, rfl⟩)
                              have hbw : Bs Mw := hb.fr hfw
                              have hw15 : mm_I Mw 46 15 = nI 0 := by
                                rw [hMw, mI_ne (Or.inr (by decide)), mI_same]
                                rfl
                              have hw16 : mm_I Mw 46 16 = nI 0 := by
                                rw [hMw, mI_same]
                                rfl
                              have hw46 : ∀ k, k ≠ 15 → k ≠ 16 → mm_I Mw 46 k = mm_I Mq 46 k := fun k h1 h2 => by
                                rw [hMw, mI_ne (Or.inr h2), mI_ne (Or.inr h1), mI_fIn (by decide)]
                              have hwa : ∀ a k, a ≠ 46 → a ≠ 50 → mm_I Mw a k = mm_I Mq a k := fun a k h1 h2 => by
                                rw [hMw, mI_ne (Or.inl h1), mI_ne (Or.inl h1), mI_fIn h2]
                              have hw50 : ∀ k, mm_I Mw 50 k = g k := fun k => by
                                rw [hMw, mI_ne (Or.inl (by decide)), mI_ne (Or.inl (by decide)), mI_fIs]
                              have hwL : ∀ a k, mm_L Mw a k = mm_L Mq a k := fun a k => by
                                rw [hMw]
                                rfl
                              refine am_iconst (v := 0) fx dX7_race_272 (by decide) ?_
                              refine am_istore fx dX7_race_273 (by decide) rfl ?_
                              have lp275 : ∀ (mz : Nat) (r : Nat), 12 - r = mz → r ≤ 12 → am_W E C (am_MQ E C (fun v μ' => (¬ ((0 ≤ x0 ∧ x0 ≤ 1) ∧ (1 ≤ x1 ∧ x1 ≤ nI 24) ∧ (1 ≤ x2 ∧ x2 ≤ nI 1000) ∧ (1 ≤ x3 ∧ x3 ≤ nI 1000) ∧ x2 ≤ x3 ∧ (1 ≤ x4 ∧ x4 ≤ nI 12) ∧ (0 ≤ x5 ∧ x5 ≤ nI 1000)) ∧ v = some (.int (-2)) ∧ μ' = mm_sI μ 46 0 0) ∨ (((0 ≤ x0 ∧ x0 ≤ 1) ∧ (1 ≤ x1 ∧ x1 ≤ nI 24) ∧ (1 ≤ x2 ∧ x2 ≤ nI 1000) ∧ (1 ≤ x3 ∧ x3 ≤ nI 1000) ∧ x2 ≤ x3 ∧ (1 ≤ x4 ∧ x4 ≤ nI 12) ∧ (0 ≤ x5 ∧ x5 ≤ nI 1000)) ∧ S = 0 ∧ v = some (.int (-3)) ∧ μ' = mm_sI μ 46 0 0) ∨ (((0 ≤ x0 ∧ x0 ≤ 1) ∧ (1 ≤ x1 ∧ x1 ≤ nI 24) ∧ (1 ≤ x2 ∧ x2 ≤ nI 1000) ∧ (1 ≤ x3 ∧ x3 ≤ nI 1000) ∧ x2 ≤ x3 ∧ (1 ≤ x4 ∧ x4 ≤ nI 12) ∧ (0 ≤ x5 ∧ x5 ≤ nI 1000)) ∧ 0 < S ∧ v = some (.int (nI S)) ∧ RcM μ μ' S N lr x0 x1 x2 x3 x4 x5 seed)) (rmX7_race).cells (rmX7_race).slots) (mm_fI Mw 51 (flI 0 (mm_I Mw 51) r)) 0 0 275 [some (.ref 46), none, none, none, none, none, none, none, none, some (.int (nI r)), none, none] [] := by
                                intro mz
                                induction mz using Nat.strongRecOn with
                                | ind mz ih3 =>
                                  intro r hzr hr
                                  have hb4 : Bs (mm_fI Mw 51 (flI 0 (mm_I Mw 51) r)) := hbw.fr (Fr.fI _ _ _)
                                  refine am_iload fx dX7_race_275 rfl ?_
                                  refine am_bipush (v := (nI 12)) fx dX7_race_277 (by decide) ?_
                                  refine am_icmp_ge fx 296 dX7_race_279 (by decide) (fun c279 => ?_) (fun c279 => ?_)
                                  · try simp (disch := omega) only [bz_0, Classical.not_not, Int32.not_le, Int32.not_lt, Nat.not_le, Nat.not_lt, nI_leI, nI_ltI, nI_eq, nI_le0, nI_lt0] at c279
                                    rw [show r = 12 by omega]
                                    obtain ⟨Mv, hMv⟩ : ∃ z, z = mm_fI Mw 51 (flI 0 (mm_I Mw 51) 12) := ⟨_, rfl⟩
                                    refine am_mem hMv.symm ?_
                                    have hfv : Fr μ0 Mv := hfw.tr (by
                                      rw [hMv]
                                      exact Fr.fI _ _ _)
                                    have hbv : Bs Mv := hb.fr hfv
                                    have hva : ∀ a k, a ≠ 51 → mm_I Mv a k = mm_I Mw a k := fun a k h => by
                                      rw [hMv, mI_fIn h]
                                    have hv51 : ∀ s, s < 12 → mm_I Mv 51 s = 0 := fun s hs => by
                                      rw [hMv, mI_fIs]
                                      unfold flI
                                      rw [if_pos hs]
                                    have hgi : ∀ i, i < (cnt lr N) → ∃ m, m < N ∧ g i = nI m := fun i hi => by
                                      rw [hgf]
                                      exact shuf_in (P := fun y => ∃ m, m < N ∧ y = nI m) ((cnt lr N) - 1) seed _ (by omega) (fun j hj => by
                                        obtain ⟨m, h1, h2, h3, h4⟩ := fil_in lr (mm_I Mz 50) N j hj
                                        exact ⟨m, h1, h3⟩) i hi
                                    have hov : Mo Mv S 0 (cnt lr N) (fun i => (g i).toNatClampNeg) (fun _ => 0) := ⟨by rw [hva _ _ (by decide), hw46 _ (by decide) (by decide), hq46 _ (by decide), z12], by rw [hva _ _ (by decide), hw15], by rw [hva _ _ (by decide), hw46 _ (by decide) (by decide), hq13], hS, by omega, by omega, fun i hi => by
                                        obtain ⟨m, h1, h2⟩ := hgi i hi
                                        have h3 : (g i).toNatClampNeg = m := by rw [h2, nI_clamp (by omega)]
                                        show mm_I Mv 50 i = nI (g i).toNatClampNeg ∧ (g i).toNatClampNeg < 24
                                        rw [hva _ _ (by decide), hw50, h3]
                                        exact ⟨h2, by omega⟩, hv51⟩
                                    refine am_aload_n fx dX7_race_296 rfl ?_
                                    refine am_callV fx dX7_race_297 mkX7_107 (ct_X7_look hbv hov (ls := x4) (bg := x5) (rn := nI 0) (by rw [hva _ _ (by decide), hw46 _ (by decide) (by decide), hq46 _ (by decide), z10]) (by rw [hva _ _ (by decide), hw46 _ (by decide) (by decide), hq46 _ (by decide), z11]) (by rw [hva _ _ (by decide), hw16])) (so7 hbv) ⟨by decide, rfl⟩ rfl (Nat.le_of_ble_eq_true rfl) ⟨by decide, by decide⟩ ⟨Nat.le_of_ble_eq_true rfl, Nat.le_of_ble_eq_true rfl⟩ rfl ?_
                                    rintro _ _ ⟨rfl, rfl⟩
                                    rw [show cnt (fun s => decide ((fun _ => (0 : Int32)) s = 0)) S = S from cnt_all (fun s => by simp) S, show fsN (fun s => decide ((fun _ => (0 : Int32)) s = 0)) S 0 = 0 from fsN_here hS0 (by simp)]
                                    refine am_aload_n fx dX7_race_300 rfl ?_
                                    refine am_getI fx dX7_race_301 fkX7_69 (by decide) (by decide) rfl (so7 hbv) ((mI_ne (Or.inr (by decide))).trans ((mI_ne (Or.inr (by decide))).trans (by rw [hva _ _ (by decide), hw46 _ (by decide) (by decide), hq46 _ (by decide), z12]))) ?_
                                    exact am_iret fx dX7_race_304 (by
                                      have e0 : ∀ x y, (x ≠ 46 ∨ y ≠ 0) → mm_I μ0 x y = mm_I μ x y := fun x y h => by
                                        rw [hM0]
                                        exact mI_ne h
                                      have f0 : Fr μ μ0 := by
                                        rw [hM0]
                                        exact Fr.sI _ _ _ _
                                      have l0 : ∀ x y, mm_L μ0 x y = mm_L μ x y := fun x y => by rw [hM0]; rfl
                                      have e46 : ∀ k, k ≠ 17 → k ≠ 18 → k ≠ 15 → k ≠ 16 → k ≠ 13 → mm_I (mm_sI (mm_sI Mv 46 17 (ovF (nI S) x4 (nI 0) (nI (cnt lr N)) x5 (nI 0))) 46 18 (nI 0)) 46 k = mm_I Mz 46 k := fun k a b c d e => by rw [mI_ne (Or.inr b), mI_ne (Or.inr a), hva _ _ (by decide), hw46 k c d, hq46 k e]
                                      refine Or.inr (Or.inr ⟨hRB, hS0, rfl, f0.tr (hfv.tr ⟨rfl, rfl, rfl⟩), fun a k h1 h2 h3 => by rw [mI_ne (Or.inl h1), mI_ne (Or.inl h1), hva a k h3, hwa a k h1 h2, hqa a k h1 h2, hzz a k h1, e0 a k (Or.inl h1)], fun a k => ?_, fun k h0 h1 => by rw [e46 k (by omega) (by omega) (by omega) (by omega) (by omega), hz6 k h1, e0 46 k (Or.inr h0)], (e46 6 (by decide) (by decide) (by decide) (by decide) (by decide)).trans z6, (e46 7 (by decide) (by decide) (by decide) (by decide) (by decide)).trans z7, (e46 8 (by decide) (by decide) (by decide) (by decide) (by decide)).trans z8, (e46 9 (by decide) (by decide) (by decide) (by decide) (by decide)).trans z9, (e46 10 (by decide) (by decide) (by decide) (by decide) (by decide)).trans z10, (e46 11 (by decide) (by decide) (by decide) (by decide) (by decide)).trans z11, (e46 12 (by decide) (by decide) (by decide) (by decide) (by decide)).trans z12, by rw [mI_ne (Or.inr (by decide)), mI_ne (Or.inr (by decide)), hva _ _ (by decide), hw46 _ (by decide) (by decide), hq13], by rw [mI_ne (Or.inr (by decide)), mI_ne (Or.inr (by decide)), hva _ _ (by decide), hw15], by rw [mI_ne (Or.inr (by decide)), mI_ne (Or.inr (by decide)), hva _ _ (by decide), hw16], by rw [mI_ne (Or.inr (by decide)), mI_same], mI_same _ _ _ _, fun s hs => by rw [mI_ne (Or.inl (by decide)), mI_ne (Or.inl (by decide)), hv51 s hs], fun i hi => by rw [mI_ne (Or.inl (by decide)), mI_ne (Or.inl (by decide)), hva _ _ (by decide), hw50, hgf]; exact shuf_congr _ _ _ _ (by omega) (fun j hj => fil_any _ _ _ _ _ _ (fun _ _ => rfl) hj) i hi⟩)
                                      show mm_L Mv a k = _
                                      rw [hMv]
                                      show mm_L Mw a k = _
                                      rw [hwL, hqL, hLz, l0])
                                  · try simp (disch := omega) only [bz_0, Classical.not_not, Int32.not_le, Int32.not_lt, Nat.not_le, Nat.not_lt, nI_leI, nI_ltI, nI_eq, nI_le0, nI_lt0] at c279
                                    refine am_aload_n fx dX7_race_282 rfl ?_
                                    refine am_getR fx dX7_race_283 fkX7_27 (by decide) (by decide) rfl (so7 hb4) (rf7_19 hb4) ?_
                                    refine am_iload fx dX7_race_286 rfl ?_
                                    refine am_iconst (v := 0) fx dX7_race_288 (by decide) ?_
                                    refine am_iast (j := r) fx dX7_race_289 (sa7_19 hb4) rfl (by omega) (by decide) ?_
                                    first | refine am_iinc fx dX7_race_290 rfl (nI_inc _) (by decide) rfl ?_ | refine am_iinc fx dX7_race_290 rfl rfl (by decide) rfl ?_
                                    refine am_goto fx 275 dX7_race_293 (by decide) ?_
                                    exact am_mem (by rw [sI_fI, flI_s]) (ih3 (12 - (r + 1)) (by omega) (r + 1) rfl (by omega))
                              refine am_sub [true, false, false, false, false, false, false, false, false, true, false, false] rfl ?_
                              exact am_mem (show Mw = mm_fI Mw 51 (flI 0 (mm_I Mw 51) 0) by rw [flI_0, fI_self]) (lp275 _ 0 rfl (Nat.zero_le _))
                            · skip
                              have c198 : 1 < kk := by
                                rcases Nat.lt_or_ge 1 kk with z | z
                                · exact z
                                · exact absurd ((kk_le0 kk (by omega)).mpr z) c198
                              refine am_iload fx dX7_race_201 rfl ?_
                              refine am_ldc fx dX7_race_203 kdX7_106 ?_
                              refine am_imul fx dX7_race_205 ?_
                              refine am_sipush (v := (nI 12345)) fx dX7_race_206 (by decide) ?_
                              refine am_iadd fx dX7_race_209 ?_
                              refine am_istore fx dX7_race_210 (by decide) rfl ?_
                              refine am_iload fx dX7_race_212 rfl ?_
                              refine am_bipush (v := (nI 16)) fx dX7_race_214 (by decide) ?_
                              refine am_iushr fx dX7_race_216 (ush16 _) ?_
                              refine am_iload fx dX7_race_217 rfl ?_
                              refine am_iconst (v := 1) fx dX7_race_219 (by decide) ?_
                              refine am_iadd fx dX7_race_220 ?_
                              refine am_topi (nI_k1 (by omega)) ?_
                              refine am_irem fx dX7_race_221 (nI_ne0 (by omega) (by omega)) ?_
                              refine am_topi (pk_rem (ush_lt _) (by omega) (by omega)) ?_
                              have hop : poX (stX x) kk < kk := Nat.mod_lt _ (by omega)
                              refine am_istore fx dX7_race_222 (by decide) rfl ?_
                              refine am_aload_n fx dX7_race_224 rfl ?_
                              refine am_getR fx dX7_race_225 fkX7_24 (by decide) (by decide) rfl (so7 hb3) (rf7_14 hb3) ?_
                              refine am_iload fx dX7_race_228 rfl ?_
                              refine am_iald  fx dX7_race_230 (sa7_14 hb3) (nI_pred1 (by omega)) (by omega) (by decide) (eo _) ?_
                              refine am_istore fx dX7_race_231 (by decide) rfl ?_
                              refine am_aload_n fx dX7_race_233 rfl ?_
                              refine am_getR fx dX7_race_234 fkX7_24 (by decide) (by decide) rfl (so7 hb3) (rf7_14 hb3) ?_
                              refine am_iload fx dX7_race_237 rfl ?_
                              refine am_aload_n fx dX7_race_239 rfl ?_
                              refine am_getR fx dX7_race_240 fkX7_24 (by decide) (by decide) rfl (so7 hb3) (rf7_14 hb3) ?_
                              refine am_iload fx dX7_race_243 rfl ?_
                              refine am_iald (j := (poX (stX x) kk)) fx dX7_race_245 (sa7_14 hb3) rfl (by omega) (by decide) (eo _) ?_
                              refine am_iast  fx dX7_race_246 (sa7_14 hb3) (nI_pred1 (by omega)) (by omega) (by decide) ?_
                              refine am_aload_n fx dX7_race_247 rfl ?_
                              refine am_getR fx dX7_race_248 fkX7_24 (by decide) (by decide) rfl (so7 hb3) (rf7_14 hb3) ?_
                              refine am_iload fx dX7_race_251 rfl ?_
                              refine am_iload fx dX7_race_253 rfl ?_
                              refine am_iast (j := (poX (stX x) kk)) fx dX7_race_255 (sa7_14 hb3) rfl (by omega) (by decide) ?_
                              have hg2 : shuf (kk - 1 - 1) (stX x) (upd (upd g (kk - 1) (g (poX (stX x) kk))) (poX (stX x) kk) (g (kk - 1))) = (shuf ((cnt lr N) - 1) seed (fil lr (mm_I Mz 50) N)) := by
                                rw [← hg]
                                obtain ⟨k, rfl⟩ : ∃ k, kk = k + 2 := ⟨kk - 2, by omega⟩
                                rfl
                              refine am_iinc fx dX7_race_256 rfl (nI_m1m1 (by omega)) (by decide) rfl ?_
                              refine am_goto fx 196 dX7_race_259 (by decide) ?_
                              refine am_sub [true, true, true, true, true, true, true, true, true, true, false, false] rfl ?_
                              exact am_mem (by rw [sI_fI, sI_fI]) (ih2 (kk - 1) (by omega) (kk - 1) _ _ rfl (by omega) hg2)
                        refine am_sub [true, true, true, true, true, true, true, true, true, true, false, false] rfl ?_
                        exact am_mem (show Mq = mm_fI Mq 50 (fil lr (mm_I Mz 50) N) by rw [← hq50, fI_self]) (lp196 _ (cnt lr N) seed _ rfl (Nat.le_refl _) rfl)
                      · try simp (disch := omega) only [bz_0, Classical.not_not, Int32.not_le, Int32.not_lt, Nat.not_le, Nat.not_lt, nI_leI, nI_ltI, nI_eq, nI_le0, nI_lt0] at c144
                        refine am_aload_n fx dX7_race_147 rfl ?_
                        refine am_getR fx dX7_race_148 fkX7_13 (by decide) (by decide) rfl (so7 hb2) (rf7_4 hb2) ?_
                        refine am_iload fx dX7_race_151 rfl ?_
                        refine am_zald (j := r) fx dX7_race_153 (sa7_4 hb2) rfl (by omega) (by decide) (e48 (by omega)) ?_
                        refine am_if_ne fx 178 dX7_race_154 (by decide) (fun c154 => ?_) (fun c154 => ?_)
                        · skip
                          have c154 : ¬ lr r = true := Classical.not_not.mp (fun z => c154 (bz_0.mpr z))
                          first | refine am_iinc fx dX7_race_178 rfl (nI_inc _) (by decide) rfl ?_ | refine am_iinc fx dX7_race_178 rfl rfl (by decide) rfl ?_
                          refine am_goto fx 138 dX7_race_181 (by decide) ?_
                          have e9 : ¬ lr r = true := c154
                          exact am_mem (by rw [cnt_f e9]; simp only [fil, if_neg e9]) (ih (N - (r + 1)) (by omega) (r + 1) rfl (by omega))
                        · skip
                          have c154 : lr r = true := Classical.not_not.mp (bz_0.mp c154)
                          refine am_aload_n fx dX7_race_157 rfl ?_
                          refine am_getR fx dX7_race_158 fkX7_24 (by decide) (by decide) rfl (so7 hb2) (rf7_14 hb2) ?_
                          refine am_aload_n fx dX7_race_161 rfl ?_
                          refine am_getI fx dX7_race_162 fkX7_82 (by decide) (by decide) rfl (so7 hb2) e13 ?_
                          refine am_iload fx dX7_race_165 rfl ?_
                          refine am_iast (j := (cnt lr r)) fx dX7_race_167 (sa7_14 hb2) rfl (by omega) (by decide) ?_
                          refine am_aload_n fx dX7_race_168 rfl ?_
                          refine am_dup_ref fx dX7_race_169 ?_
                          refine am_getI fx dX7_race_170 fkX7_82 (by decide) (by decide) rfl (so7 hb2) ((mI_ne (Or.inl (by decide))).trans e13) ?_
                          refine am_iconst (v := 1) fx dX7_race_173 (by decide) ?_
                          refine am_iadd fx dX7_race_174 ?_
                          refine am_topi (nI_1 _) ?_
                          refine am_putI fx dX7_race_175 fkX7_82 (by decide) (by decide) rfl rfl (so7 hb2) ?_
                          first | refine am_iinc fx dX7_race_178 rfl (nI_inc _) (by decide) rfl ?_ | refine am_iinc fx dX7_race_178 rfl rfl (by decide) rfl ?_
                          refine am_goto fx 138 dX7_race_181 (by decide) ?_
                          exact am_mem (od_st c154) (ih (N - (r + 1)) (by omega) (r + 1) rfl (by omega))
                  refine am_sub [true, true, true, true, true, true, true, true, true, false, false, false] rfl ?_
                  exact am_mem (show Mz = (mm_sI (mm_fI Mz 50 (fil lr (mm_I Mz 50) 0)) 46 13 (nI (cnt lr 0))) by simp only [fil]; rw [fI_self]; exact (sI_self Mz 46 13 z13).symm) (lp138 _ 0 rfl (Nat.zero_le _))
                · skip
                  have hS0 : S = 0 := by
                    rcases Nat.eq_zero_or_pos S with z | z
                    · exact z
                    · exact absurd c83 (nI_ne0 z (by omega))
                  refine am_bipush (v := (-3)) fx dX7_race_86 (by decide) ?_
                  exact am_iret fx dX7_race_88 (Or.inr (Or.inl ⟨hRB, hS0, rfl, hM0⟩))
              · try simp (disch := omega) only [bz_0, Classical.not_not, Int32.not_le, Int32.not_lt, Nat.not_le, Nat.not_lt, nI_leI, nI_ltI, nI_eq, nI_le0, nI_lt0] at c73
                refine am_bipush (v := (-2)) fx dX7_race_76 (by decide) ?_
                exact am_iret fx dX7_race_78 (Or.inl ⟨fun h => c73 h.2.2.2.2.2.2, rfl, hM0⟩)
