/-! the model: its table -/
def Mt (μ : am_M) (S N : Nat) (cs : Nat → Nat → Int32) : Prop := mm_I μ 46 1 = nI S ∧ mm_I μ 46 2 = nI N ∧ S ≤ 12 ∧ N ≤ 24 ∧ (∀ s i, s < 12 → i < 24 → mm_I μ 49 (24 * s + i) = cs s i + 1) ∧ (∀ s i, s < 12 → i < 24 → cs s i = -1 ∨ (0 ≤ cs s i ∧ cs s i ≤ 2000000))
theorem Mt.s {μ : am_M} {S N : Nat} {cs : Nat → Nat → Int32} (h : Mt μ S N cs) : S ≤ 12 := h.2.2.1
theorem Mt.n {μ : am_M} {S N : Nat} {cs : Nat → Nat → Int32} (h : Mt μ S N cs) : N ≤ 24 := h.2.2.2.1
theorem Mt.keep {μ ν : am_M} {S N : Nat} {cs : Nat → Nat → Int32} (h : Mt μ S N cs) (h1 : mm_I ν 46 1 = mm_I μ 46 1) (h2 : mm_I ν 46 2 = mm_I μ 46 2) (h3 : ∀ k, mm_I ν 49 k = mm_I μ 49 k) : Mt ν S N cs := ⟨h1.trans h.1, h2.trans h.2.1, h.2.2.1, h.2.2.2.1, fun s i hs hi => (h3 _).trans (h.2.2.2.2.1 s i hs hi), h.2.2.2.2.2⟩
theorem ix24 (s i : Nat) : nI 24 * nI s + nI i = nI (24 * s + i) := by rw [pk_mul, nI_add]
theorem ix2 (i f : Nat) : nI 2 * nI i + nI f = nI (2 * i + f) := by rw [pk_mul, nI_add]
theorem p1_0 (x : Int32) : x + 1 = 0 ↔ x = -1 := ⟨fun h => by rw [← Int32.add_sub_cancel x 1, h]; rfl, fun h => by rw [h]; rfl⟩
theorem p1_m1 (x : Int32) : x + 1 - 1 = x := Int32.add_sub_cancel x 1
theorem le_pred {x : Int32} {n : Nat} (hn : n < 2 ^ 31) : x ≤ nI n - 1 ↔ x < nI n := by
  rw [Int32.le_iff_toInt_le, Int32.lt_iff_toInt_lt]
  rcases Nat.eq_zero_or_pos n with rfl | h
  · rw [show (nI 0 - 1).toInt = -1 from rfl, show (nI 0).toInt = 0 from rfl]; omega
  · rw [nI_pred1 h, nI_toInt (by omega), nI_toInt hn]; omega
theorem cnt_t {b : Nat → Bool} {r : Nat} (h : b r = true) : cnt b (r + 1) = cnt b r + 1 := by simp only [cnt, if_pos h]
theorem cnt_f {b : Nat → Bool} {r : Nat} (h : ¬ b r = true) : cnt b (r + 1) = cnt b r := by simp only [cnt, if_neg h, Nat.add_zero]
theorem bz_congr {P Q : Prop} [Decidable P] [Decidable Q] (h : P ↔ Q) : bz P = bz Q := isl_n h
set_option maxRecDepth 100000 in
set_option maxHeartbeats 4000000 in
theorem ct_X7_thrown {E : am_E} {μ : am_M} (hb : Bs μ) : am_Ct E yX7_thrown cX7_thrown 1 (some .int) rmX7_thrown [.ref 46] μ (fun v μ' => v = some (.int (mm_I μ 46 0)) ∧ μ = μ') := by
  refine am_Ct.of (ls := [some (.ref 46)]) (by decide) (Nat.le_of_ble_eq_true rfl) rfl (fun C fx hnm => ?_)
  refine am_aload_n fx dX7_thrown_0 rfl ?_
  refine am_getI fx dX7_thrown_1 fkX7_43 (by decide) (by decide) rfl (so7 hb) rfl ?_
  exact am_iret fx dX7_thrown_4 ⟨rfl, rfl⟩
set_option maxRecDepth 100000 in
set_option maxHeartbeats 4000000 in
theorem ct_X7_in {E : am_E} {μ : am_M} (x lo hi : Int32) : am_Ct E yX7_in cX7_in 3 (some .boolean) rmX7_in [.int x, .int lo, .int hi] μ (fun v μ' => v = some (.int (bz (lo ≤ x ∧ x ≤ hi))) ∧ μ = μ') := by
  refine am_Ct.of (ls := [some (.int x), some (.int lo), some (.int hi)]) (by decide) (Nat.le_of_ble_eq_true rfl) rfl (fun C fx hnm => ?_)
  refine am_iload_n fx dX7_in_0 rfl ?_
  refine am_iload_n fx dX7_in_1 rfl ?_
  refine am_icmp_lt fx 14 dX7_in_2 (by decide) (fun c2 => ?_) (fun c2 => ?_)
  · skip
    have c2 := Int32.not_le.mpr c2
    refine am_iconst (v := 0) fx dX7_in_14 (by decide) ?_
    exact am_zret fx dX7_in_15 (by first | exact Or.inl rfl | exact Or.inr rfl | exact bz_01) ⟨by rw [← bz_f (fun h => c2 h.1)], rfl⟩
  · skip
    have c2 := Int32.not_lt.mp c2
    refine am_iload_n fx dX7_in_5 rfl ?_
    refine am_iload_n fx dX7_in_6 rfl ?_
    refine am_icmp_gt fx 14 dX7_in_7 (by decide) (fun c7 => ?_) (fun c7 => ?_)
    · skip
      have c7 := Int32.not_le.mpr c7
      refine am_iconst (v := 0) fx dX7_in_14 (by decide) ?_
      exact am_zret fx dX7_in_15 (by first | exact Or.inl rfl | exact Or.inr rfl | exact bz_01) ⟨by rw [← bz_f (fun h => c7 h.2)], rfl⟩
    · skip
      have c7 := Int32.not_lt.mp c7
      refine am_iconst (v := 1) fx dX7_in_10 (by decide) ?_
      refine am_goto fx 15 dX7_in_11 (by decide) ?_
      exact am_zret fx dX7_in_15 (by first | exact Or.inl rfl | exact Or.inr rfl | exact bz_01) ⟨by rw [← bz_t ⟨c2, c7⟩], rfl⟩
set_option maxRecDepth 100000 in
set_option maxHeartbeats 4000000 in
theorem ct_X7_isSetting {E : am_E} {μ : am_M} (hb : Bs μ) {S N : Nat} {cs : Nat → Nat → Int32} (hm : Mt μ S N cs) (x : Int32) : am_Ct E yX7_isSetting cX7_isSetting 2 (some .boolean) rmX7_isSetting [.ref 46, .int x] μ (fun v μ' => v = some (.int (bz (0 ≤ x ∧ x < nI S))) ∧ μ = μ') := by
  refine am_Ct.of (ls := [some (.ref 46), some (.int x)]) (by decide) (Nat.le_of_ble_eq_true rfl) rfl (fun C fx hnm => ?_)
  have hS := hm.s
  have hN := hm.n
  refine am_iload_n fx dX7_isSetting_0 rfl ?_
  refine am_iconst (v := 0) fx dX7_isSetting_1 (by decide) ?_
  refine am_aload_n fx dX7_isSetting_2 rfl ?_
  refine am_getI fx dX7_isSetting_3 fkX7_46 (by decide) (by decide) rfl (so7 hb) hm.1 ?_
  refine am_iconst (v := 1) fx dX7_isSetting_6 (by decide) ?_
  refine am_isub fx dX7_isSetting_7 ?_
  refine am_callS fx dX7_isSetting_8 mkX7_49 (ct_X7_in _ _ _) rfl (Nat.le_of_ble_eq_true rfl) ⟨by decide, by decide⟩ ⟨Nat.le_of_ble_eq_true rfl, Nat.le_of_ble_eq_true rfl⟩ rfl ?_
  rintro _ _ ⟨rfl, rfl⟩
  rw [bz_congr (show (0 ≤ x ∧ x ≤ nI S - 1) ↔ (0 ≤ x ∧ x < nI S) by rw [le_pred (by omega)])]
  exact am_zret fx dX7_isSetting_11 (by first | exact Or.inl rfl | exact Or.inr rfl | exact bz_01) ⟨rfl, rfl⟩
set_option maxRecDepth 100000 in
set_option maxHeartbeats 4000000 in
theorem ct_X7_isInstance {E : am_E} {μ : am_M} (hb : Bs μ) {S N : Nat} {cs : Nat → Nat → Int32} (hm : Mt μ S N cs) (x : Int32) : am_Ct E yX7_isInstance cX7_isInstance 2 (some .boolean) rmX7_isInstance [.ref 46, .int x] μ (fun v μ' => v = some (.int (bz (0 ≤ x ∧ x < nI N))) ∧ μ = μ') := by
  refine am_Ct.of (ls := [some (.ref 46), some (.int x)]) (by decide) (Nat.le_of_ble_eq_true rfl) rfl (fun C fx hnm => ?_)
  have hS := hm.s
  have hN := hm.n
  refine am_iload_n fx dX7_isInstance_0 rfl ?_
  refine am_iconst (v := 0) fx dX7_isInstance_1 (by decide) ?_
  refine am_aload_n fx dX7_isInstance_2 rfl ?_
  refine am_getI fx dX7_isInstance_3 fkX7_53 (by decide) (by decide) rfl (so7 hb) hm.2.1 ?_
  refine am_iconst (v := 1) fx dX7_isInstance_6 (by decide) ?_
  refine am_isub fx dX7_isInstance_7 ?_
  refine am_callS fx dX7_isInstance_8 mkX7_49 (ct_X7_in _ _ _) rfl (Nat.le_of_ble_eq_true rfl) ⟨by decide, by decide⟩ ⟨Nat.le_of_ble_eq_true rfl, Nat.le_of_ble_eq_true rfl⟩ rfl ?_
  rintro _ _ ⟨rfl, rfl⟩
  rw [bz_congr (show (0 ≤ x ∧ x ≤ nI N - 1) ↔ (0 ≤ x ∧ x < nI N) by rw [le_pred (by omega)])]
  exact am_zret fx dX7_isInstance_11 (by first | exact Or.inl rfl | exact Or.inr rfl | exact bz_01) ⟨rfl, rfl⟩
set_option maxRecDepth 100000 in
set_option maxHeartbeats 4000000 in
theorem ct_X7_costAt {E : am_E} {μ : am_M} (hb : Bs μ) {S N : Nat} {cs : Nat → Nat → Int32} (hm : Mt μ S N cs) (s i : Nat) (hs : s < 12) (hi : i < 24) : am_Ct E yX7_costAt cX7_costAt 3 (some .int) rmX7_costAt [.ref 46, .int (nI s), .int (nI i)] μ (fun v μ' => v = some (.int (cs s i)) ∧ μ = μ') := by
  refine am_Ct.of (ls := [some (.ref 46), some (.int (nI s)), some (.int (nI i))]) (by decide) (Nat.le_of_ble_eq_true rfl) rfl (fun C fx hnm => ?_)
  refine am_aload_n fx dX7_costAt_0 rfl ?_
  refine am_getR fx dX7_costAt_1 fkX7_17 (by decide) (by decide) rfl (so7 hb) (rf7_5 hb) ?_
  refine am_bipush (v := (nI 24)) fx dX7_costAt_4 (by decide) ?_
  refine am_iload_n fx dX7_costAt_6 rfl ?_
  refine am_imul fx dX7_costAt_7 ?_
  refine am_iload_n fx dX7_costAt_8 rfl ?_
  refine am_iadd fx dX7_costAt_9 ?_
  refine am_iald (j := (24 * s + i)) fx dX7_costAt_10 (sa7_5 hb) (ix24 s i) (by omega) (by decide) (hm.2.2.2.2.1 s i (by omega) (by omega)) ?_
  refine am_iconst (v := 1) fx dX7_costAt_11 (by decide) ?_
  refine am_isub fx dX7_costAt_12 ?_
  refine am_topi (p1_m1 _) ?_
  exact am_iret fx dX7_costAt_13 ⟨rfl, rfl⟩
set_option maxRecDepth 100000 in
set_option maxHeartbeats 4000000 in
theorem ct_X7_setting {E : am_E} {μ : am_M} (hb : Bs μ) {S N : Nat} {cs : Nat → Nat → Int32} (hm : Mt μ S N cs) : am_Ct E yX7_setting cX7_setting 1 (some .int) rmX7_setting [.ref 46] μ (fun v μ' => (S = 12 ∧ v = some (.int (-4)) ∧ μ' = mm_sI μ 46 0 0) ∨ (S < 12 ∧ v = some (.int (nI S)) ∧ μ' = mm_sI (mm_sI μ 46 0 0) 46 1 (nI (S + 1)))) := by
  refine am_Ct.of (ls := [some (.ref 46)]) (by decide) (Nat.le_of_ble_eq_true rfl) rfl (fun C fx hnm => ?_)
  have hS := hm.s
  have hN := hm.n
  refine am_aload_n fx dX7_setting_0 rfl ?_
  refine am_iconst (v := 0) fx dX7_setting_1 (by decide) ?_
  refine am_putI fx dX7_setting_2 fkX7_43 (by decide) (by decide) rfl rfl (so7 hb) ?_
  have hb : Bs (mm_sI μ 46 0 0) := hb.fr (Fr.sI _ _ _ _)
  have hm : Mt (mm_sI μ 46 0 0) S N cs := hm.keep (mI_ne (Or.inr (by decide))) (mI_ne (Or.inr (by decide))) (fun k => mI_ne (Or.inl (by decide)))
  obtain ⟨μ0, hM0⟩ : ∃ z, z = mm_sI μ 46 0 0 := ⟨_, rfl⟩
  rw [← hM0] at hb hm
  refine am_mem hM0.symm ?_
  refine am_aload_n fx dX7_setting_5 rfl ?_
  refine am_getI fx dX7_setting_6 fkX7_46 (by decide) (by decide) rfl (so7 hb) hm.1 ?_
  refine am_bipush (v := (nI 12)) fx dX7_setting_9 (by decide) ?_
  refine am_icmp_ne fx 17 dX7_setting_11 (by decide) (fun c11 => ?_) (fun c11 => ?_)
  · try simp (disch := omega) only [bz_0, Classical.not_not, Int32.not_le, Int32.not_lt, Nat.not_le, Nat.not_lt, nI_leI, nI_ltI, nI_eq, nI_le0, nI_lt0] at c11
    refine am_aload_n fx dX7_setting_17 rfl ?_
    refine am_dup_ref fx dX7_setting_18 ?_
    refine am_getI fx dX7_setting_19 fkX7_46 (by decide) (by decide) rfl (so7 hb) hm.1 ?_
    refine am_iconst (v := 1) fx dX7_setting_22 (by decide) ?_
    refine am_iadd fx dX7_setting_23 ?_
    refine am_topi (nI_1 S) ?_
    refine am_putI fx dX7_setting_24 fkX7_46 (by decide) (by decide) rfl rfl (so7 hb) ?_
    refine am_aload_n fx dX7_setting_27 rfl ?_
    refine am_getI fx dX7_setting_28 fkX7_46 (by decide) (by decide) rfl (so7 hb) (mI_same _ _ _ _) ?_
    refine am_iconst (v := 1) fx dX7_setting_31 (by decide) ?_
    refine am_isub fx dX7_setting_32 ?_
    refine am_topi (nI_pred S) ?_
    exact am_iret fx dX7_setting_33 (Or.inr ⟨by omega, rfl, by rw [hM0]⟩)
  · try simp (disch := omega) only [bz_0, Classical.not_not, Int32.not_le, Int32.not_lt, Nat.not_le, Nat.not_lt, nI_leI, nI_ltI, nI_eq, nI_le0, nI_lt0] at c11
    refine am_bipush (v := (-4)) fx dX7_setting_14 (by decide) ?_
    exact am_iret fx dX7_setting_16 (Or.inl ⟨c11, rfl, hM0⟩)
set_option maxRecDepth 100000 in
set_option maxHeartbeats 4000000 in
theorem ct_X7_instance {E : am_E} {μ : am_M} (hb : Bs μ) {S N : Nat} {cs : Nat → Nat → Int32} (hm : Mt μ S N cs) (f g l : Int32) (hl : l = 0 ∨ l = 1) : am_Ct E yX7_instance cX7_instance 4 (some .int) rmX7_instance [.ref 46, .int f, .int g, .int l] μ (fun v μ' => (¬ ((0 ≤ f ∧ f ≤ nI 100) ∧ (0 ≤ g ∧ g ≤ nI 100)) ∧ v = some (.int (-2)) ∧ μ' = mm_sI μ 46 0 0) ∨ (((0 ≤ f ∧ f ≤ nI 100) ∧ (0 ≤ g ∧ g ≤ nI 100)) ∧ ((N = 24 ∧ v = some (.int (-4)) ∧ μ' = mm_sI μ 46 0 0) ∨ (N < 24 ∧ v = some (.int (nI N)) ∧ μ' = mm_sI (mm_sI (mm_sI (mm_sI (mm_sI μ 46 0 0) 47 (2 * N) f) 47 (2 * N + 1) g) 48 N l) 46 2 (nI (N + 1)))))) := by
  refine am_Ct.of (ls := [some (.ref 46), some (.int f), some (.int g), some (.int l)]) (by decide) (Nat.le_of_ble_eq_true rfl) rfl (fun C fx hnm => ?_)
  have hS := hm.s
  have hN := hm.n
  refine am_aload_n fx dX7_instance_0 rfl ?_
  refine am_iconst (v := 0) fx dX7_instance_1 (by decide) ?_
  refine am_putI fx dX7_instance_2 fkX7_43 (by decide) (by decide) rfl rfl (so7 hb) ?_
  have hb : Bs (mm_sI μ 46 0 0) := hb.fr (Fr.sI _ _ _ _)
  have hm : Mt (mm_sI μ 46 0 0) S N cs := hm.keep (mI_ne (Or.inr (by decide))) (mI_ne (Or.inr (by decide))) (fun k => mI_ne (Or.inl (by decide)))
  obtain ⟨μ0, hM0⟩ : ∃ z, z = mm_sI μ 46 0 0 := ⟨_, rfl⟩
  rw [← hM0] at hb hm
  refine am_mem hM0.symm ?_
  refine am_iload_n fx dX7_instance_5 rfl ?_
  refine am_iconst (v := 0) fx dX7_instance_6 (by decide) ?_
  refine am_bipush (v := (nI 100)) fx dX7_instance_7 (by decide) ?_
  refine am_callS fx dX7_instance_9 mkX7_49 (ct_X7_in _ _ _) rfl (Nat.le_of_ble_eq_true rfl) ⟨by decide, by decide⟩ ⟨Nat.le_of_ble_eq_true rfl, Nat.le_of_ble_eq_true rfl⟩ rfl ?_
  rintro _ _ ⟨rfl, rfl⟩
  refine am_if_eq fx 25 dX7_instance_12 (by decide) (fun c12 => ?_) (fun c12 => ?_)
  · try simp (disch := omega) only [bz_0, Classical.not_not, Int32.not_le, Int32.not_lt, Nat.not_le, Nat.not_lt, nI_leI, nI_ltI, nI_eq, nI_le0, nI_lt0] at c12
    refine am_bipush (v := (-2)) fx dX7_instance_25 (by decide) ?_
    exact am_iret fx dX7_instance_27 (Or.inl ⟨fun h => c12 h.1, rfl, hM0⟩)
  · try simp (disch := omega) only [bz_0, Classical.not_not, Int32.not_le, Int32.not_lt, Nat.not_le, Nat.not_lt, nI_leI, nI_ltI, nI_eq, nI_le0, nI_lt0] at c12
    refine am_iload_n fx dX7_instance_15 rfl ?_
    refine am_iconst (v := 0) fx dX7_instance_16 (by decide) ?_
    refine am_bipush (v := (nI 100)) fx dX7_instance_17 (by decide) ?_
    refine am_callS fx dX7_instance_19 mkX7_49 (ct_X7_in _ _ _) rfl (Nat.le_of_ble_eq_true rfl) ⟨by decide, by decide⟩ ⟨Nat.le_of_ble_eq_true rfl, Nat.le_of_ble_eq_true rfl⟩ rfl ?_
    rintro _ _ ⟨rfl, rfl⟩
    refine am_if_ne fx 28 dX7_instance_22 (by decide) (fun c22 => ?_) (fun c22 => ?_)
    · try simp (disch := omega) only [bz_0, Classical.not_not, Int32.not_le, Int32.not_lt, Nat.not_le, Nat.not_lt, nI_leI, nI_ltI, nI_eq, nI_le0, nI_lt0] at c22
      refine am_aload_n fx dX7_instance_28 rfl ?_
      refine am_getI fx dX7_instance_29 fkX7_53 (by decide) (by decide) rfl (so7 hb) hm.2.1 ?_
      refine am_bipush (v := (nI 24)) fx dX7_instance_32 (by decide) ?_
      refine am_icmp_ne fx 40 dX7_instance_34 (by decide) (fun c34 => ?_) (fun c34 => ?_)
      · try simp (disch := omega) only [bz_0, Classical.not_not, Int32.not_le, Int32.not_lt, Nat.not_le, Nat.not_lt, nI_leI, nI_ltI, nI_eq, nI_le0, nI_lt0] at c34
        refine am_aload_n fx dX7_instance_40 rfl ?_
        refine am_getR fx dX7_instance_41 fkX7_7 (by decide) (by decide) rfl (so7 hb) (rf7_3 hb) ?_
        refine am_iconst (v := (nI 2)) fx dX7_instance_44 (by decide) ?_
        refine am_aload_n fx dX7_instance_45 rfl ?_
        refine am_getI fx dX7_instance_46 fkX7_53 (by decide) (by decide) rfl (so7 hb) hm.2.1 ?_
        refine am_imul fx dX7_instance_49 ?_
        refine am_topi (pk_mul 2 N) ?_
        refine am_iload_n fx dX7_instance_50 rfl ?_
        refine am_iast (j := (2 * N)) fx dX7_instance_51 (sa7_3 hb) rfl (by omega) (by decide) ?_
        refine am_aload_n fx dX7_instance_52 rfl ?_
        refine am_getR fx dX7_instance_53 fkX7_7 (by decide) (by decide) rfl (so7 hb) (rf7_3 hb) ?_
        refine am_iconst (v := (nI 2)) fx dX7_instance_56 (by decide) ?_
        refine am_aload_n fx dX7_instance_57 rfl ?_
        refine am_getI fx dX7_instance_58 fkX7_53 (by decide) (by decide) rfl (so7 hb) ((mI_ne (Or.inl (by decide))).trans hm.2.1) ?_
        refine am_imul fx dX7_instance_61 ?_
        refine am_topi (pk_mul 2 N) ?_
        refine am_iconst (v := 1) fx dX7_instance_62 (by decide) ?_
        refine am_iadd fx dX7_instance_63 ?_
        refine am_topi (nI_1 (2 * N)) ?_
        refine am_iload_n fx dX7_instance_64 rfl ?_
        refine am_iast (j := (2 * N + 1)) fx dX7_instance_65 (sa7_3 hb) rfl (by omega) (by decide) ?_
        refine am_aload_n fx dX7_instance_66 rfl ?_
        refine am_getR fx dX7_instance_67 fkX7_13 (by decide) (by decide) rfl (so7 hb) (rf7_4 hb) ?_
        refine am_aload_n fx dX7_instance_70 rfl ?_
        refine am_getI fx dX7_instance_71 fkX7_53 (by decide) (by decide) rfl (so7 hb) ((mI_ne (Or.inl (by decide))).trans ((mI_ne (Or.inl (by decide))).trans hm.2.1)) ?_
        refine am_iload_n fx dX7_instance_74 rfl ?_
        refine am_zast (j := N) fx dX7_instance_75 (sa7_4 hb) rfl (by omega) (by decide) hl ?_
        refine am_aload_n fx dX7_instance_76 rfl ?_
        refine am_dup_ref fx dX7_instance_77 ?_
        refine am_getI fx dX7_instance_78 fkX7_53 (by decide) (by decide) rfl (so7 hb) ((mI_ne (Or.inl (by decide))).trans ((mI_ne (Or.inl (by decide))).trans ((mI_ne (Or.inl (by decide))).trans hm.2.1))) ?_
        refine am_iconst (v := 1) fx dX7_instance_81 (by decide) ?_
        refine am_iadd fx dX7_instance_82 ?_
        refine am_topi (nI_1 N) ?_
        refine am_putI fx dX7_instance_83 fkX7_53 (by decide) (by decide) rfl rfl (so7 hb) ?_
        refine am_aload_n fx dX7_instance_86 rfl ?_
        refine am_getI fx dX7_instance_87 fkX7_53 (by decide) (by decide) rfl (so7 hb) (mI_same _ _ _ _) ?_
        refine am_iconst (v := 1) fx dX7_instance_90 (by decide) ?_
        refine am_isub fx dX7_instance_91 ?_
        refine am_topi (nI_pred N) ?_
        exact am_iret fx dX7_instance_92 (Or.inr ⟨⟨c12, c22⟩, Or.inr ⟨by omega, rfl, by rw [hM0]⟩⟩)
      · try simp (disch := omega) only [bz_0, Classical.not_not, Int32.not_le, Int32.not_lt, Nat.not_le, Nat.not_lt, nI_leI, nI_ltI, nI_eq, nI_le0, nI_lt0] at c34
        refine am_bipush (v := (-4)) fx dX7_instance_37 (by decide) ?_
        exact am_iret fx dX7_instance_39 (Or.inr ⟨⟨c12, c22⟩, Or.inl ⟨c34, rfl, hM0⟩⟩)
    · try simp (disch := omega) only [bz_0, Classical.not_not, Int32.not_le, Int32.not_lt, Nat.not_le, Nat.not_lt, nI_leI, nI_ltI, nI_eq, nI_le0, nI_lt0] at c22
      refine am_bipush (v := (-2)) fx dX7_instance_25 (by decide) ?_
      exact am_iret fx dX7_instance_27 (Or.inl ⟨fun h => c22 h.2, rfl, hM0⟩)
set_option maxRecDepth 100000 in
set_option maxHeartbeats 4000000 in
theorem ct_X7_costOf {E : am_E} {μ : am_M} (hb : Bs μ) {S N : Nat} {cs : Nat → Nat → Int32} (hm : Mt μ S N cs) (s i : Int32) : am_Ct E yX7_costOf cX7_costOf 3 (some .int) rmX7_costOf [.ref 46, .int s, .int i] μ (fun v μ' => (¬ ((0 ≤ s ∧ s < nI S) ∧ (0 ≤ i ∧ i < nI N)) ∧ v = some (.int (-1)) ∧ μ' = mm_sI μ 46 0 0) ∨ (∃ s' i' : Nat, s' < S ∧ i' < N ∧ s = nI s' ∧ i = nI i' ∧ v = some (.int (if cs s' i' = -1 then -3 else cs s' i')) ∧ μ' = mm_sI μ 46 0 0)) := by
  refine am_Ct.of (ls := [some (.ref 46), some (.int s), some (.int i)]) (by decide) (Nat.le_of_ble_eq_true rfl) rfl (fun C fx hnm => ?_)
  have hS := hm.s
  have hN := hm.n
  refine am_aload_n fx dX7_costOf_0 rfl ?_
  refine am_iconst (v := 0) fx dX7_costOf_1 (by decide) ?_
  refine am_putI fx dX7_costOf_2 fkX7_43 (by decide) (by decide) rfl rfl (so7 hb) ?_
  have hb : Bs (mm_sI μ 46 0 0) := hb.fr (Fr.sI _ _ _ _)
  have hm : Mt (mm_sI μ 46 0 0) S N cs := hm.keep (mI_ne (Or.inr (by decide))) (mI_ne (Or.inr (by decide))) (fun k => mI_ne (Or.inl (by decide)))
  obtain ⟨μ0, hM0⟩ : ∃ z, z = mm_sI μ 46 0 0 := ⟨_, rfl⟩
  rw [← hM0] at hb hm
  refine am_mem hM0.symm ?_
  refine am_aload_n fx dX7_costOf_5 rfl ?_
  refine am_iload_n fx dX7_costOf_6 rfl ?_
  refine am_callV fx dX7_costOf_7 mkX7_56 (ct_X7_isSetting hb hm _) (so7 hb) ⟨by decide, rfl⟩ rfl (Nat.le_of_ble_eq_true rfl) ⟨by decide, by decide⟩ ⟨Nat.le_of_ble_eq_true rfl, Nat.le_of_ble_eq_true rfl⟩ rfl ?_
  rintro _ _ ⟨rfl, rfl⟩
  refine am_if_eq fx 21 dX7_costOf_10 (by decide) (fun c10 => ?_) (fun c10 => ?_)
  · try simp (disch := omega) only [bz_0, Classical.not_not, Int32.not_le, Int32.not_lt, Nat.not_le, Nat.not_lt, nI_leI, nI_ltI, nI_eq, nI_le0, nI_lt0] at c10
    refine am_iconst (v := (-1)) fx dX7_costOf_21 (by decide) ?_
    exact am_iret fx dX7_costOf_22 (Or.inl ⟨fun h => c10 h.1, rfl, hM0⟩)
  · try simp (disch := omega) only [bz_0, Classical.not_not, Int32.not_le, Int32.not_lt, Nat.not_le, Nat.not_lt, nI_leI, nI_ltI, nI_eq, nI_le0, nI_lt0] at c10
    refine am_aload_n fx dX7_costOf_13 rfl ?_
    refine am_iload_n fx dX7_costOf_14 rfl ?_
    refine am_callV fx dX7_costOf_15 mkX7_60 (ct_X7_isInstance hb hm _) (so7 hb) ⟨by decide, rfl⟩ rfl (Nat.le_of_ble_eq_true rfl) ⟨by decide, by decide⟩ ⟨Nat.le_of_ble_eq_true rfl, Nat.le_of_ble_eq_true rfl⟩ rfl ?_
    rintro _ _ ⟨rfl, rfl⟩
    refine am_if_ne fx 23 dX7_costOf_18 (by decide) (fun c18 => ?_) (fun c18 => ?_)
    · try simp (disch := omega) only [bz_0, Classical.not_not, Int32.not_le, Int32.not_lt, Nat.not_le, Nat.not_lt, nI_leI, nI_ltI, nI_eq, nI_le0, nI_lt0] at c18
      have hc1 : ((0 ≤ s ∧ s < nI S) ∧ (0 ≤ i ∧ i < nI N)) := ⟨c10, c18⟩
      obtain ⟨s, hs, rfl⟩ := nI_rg2 c10 (by omega)
      obtain ⟨i, hi, rfl⟩ := nI_rg2 c18 (by omega)
      refine am_aload_n fx dX7_costOf_23 rfl ?_
      refine am_getR fx dX7_costOf_24 fkX7_17 (by decide) (by decide) rfl (so7 hb) (rf7_5 hb) ?_
      refine am_bipush (v := (nI 24)) fx dX7_costOf_27 (by decide) ?_
      refine am_iload_n fx dX7_costOf_29 rfl ?_
      refine am_imul fx dX7_costOf_30 ?_
      refine am_iload_n fx dX7_costOf_31 rfl ?_
      refine am_iadd fx dX7_costOf_32 ?_
      refine am_iald (j := (24 * s + i)) fx dX7_costOf_33 (sa7_5 hb) (ix24 s i) (by omega) (by decide) (hm.2.2.2.2.1 s i (by omega) (by omega)) ?_
      refine am_if_ne fx 42 dX7_costOf_34 (by decide) (fun c34 => ?_) (fun c34 => ?_)
      · skip
        have c34 : ¬ cs s i = -1 := fun z => c34 ((p1_0 _).mpr z)
        refine am_aload_n fx dX7_costOf_42 rfl ?_
        refine am_iload_n fx dX7_costOf_43 rfl ?_
        refine am_iload_n fx dX7_costOf_44 rfl ?_
        refine am_callV fx dX7_costOf_45 mkX7_65 (ct_X7_costAt hb hm s i (by omega) (by omega)) (so7 hb) ⟨by decide, rfl⟩ rfl (Nat.le_of_ble_eq_true rfl) ⟨by decide, by decide⟩ ⟨Nat.le_of_ble_eq_true rfl, Nat.le_of_ble_eq_true rfl⟩ rfl ?_
        rintro _ _ ⟨rfl, rfl⟩
        exact am_iret fx dX7_costOf_48 (Or.inr ⟨s, i, hs, hi, rfl, rfl, by rw [if_neg c34], hM0⟩)
      · skip
        have c34 := (p1_0 _).mp c34
        refine am_bipush (v := (-3)) fx dX7_costOf_37 (by decide) ?_
        refine am_goto fx 48 dX7_costOf_39 (by decide) ?_
        exact am_iret fx dX7_costOf_48 (Or.inr ⟨s, i, hs, hi, rfl, rfl, by rw [if_pos c34], hM0⟩)
    · try simp (disch := omega) only [bz_0, Classical.not_not, Int32.not_le, Int32.not_lt, Nat.not_le, Nat.not_lt, nI_leI, nI_ltI, nI_eq, nI_le0, nI_lt0] at c18
      refine am_iconst (v := (-1)) fx dX7_costOf_21 (by decide) ?_
      exact am_iret fx dX7_costOf_22 (Or.inl ⟨fun h => c18 h.2, rfl, hM0⟩)
set_option maxRecDepth 100000 in
set_option maxHeartbeats 4000000 in
theorem ct_X7_cost {E : am_E} {μ : am_M} (hb : Bs μ) {S N : Nat} {cs : Nat → Nat → Int32} (hm : Mt μ S N cs) (s i x : Int32) : am_Ct E yX7_cost cX7_cost 6 (some .int) rmX7_cost [.ref 46, .int s, .int i, .int x] μ (fun v μ' => (¬ ((0 ≤ s ∧ s < nI S) ∧ (0 ≤ i ∧ i < nI N)) ∧ v = some (.int (-1)) ∧ μ' = mm_sI μ 46 0 0) ∨ (((0 ≤ s ∧ s < nI S) ∧ (0 ≤ i ∧ i < nI N)) ∧ ¬ (-1 ≤ x ∧ x ≤ 1000000) ∧ v = some (.int (-2)) ∧ μ' = mm_sI μ 46 0 0) ∨ (((0 ≤ s ∧ s < nI S) ∧ (0 ≤ i ∧ i < nI N)) ∧ (-1 ≤ x ∧ x ≤ 1000000) ∧ ∃ s' i' : Nat, s' < S ∧ i' < N ∧ s = nI s' ∧ i = nI i' ∧ ((¬ cs s' i' = -1 ∧ v = some (.int (-3)) ∧ μ' = mm_sI μ 46 0 0) ∨ (cs s' i' = -1 ∧ μ' = mm_sI (mm_sI μ 46 0 0) 49 (24 * s' + i') (if x < 0 then 2000001 else x + 1) ∧ v = some (.int (nI (cnt (fun k => decide (¬ mm_I μ' 49 (24 * s' + k) = 0)) 24))))))) := by
  refine am_Ct.of (ls := [some (.ref 46), some (.int s), some (.int i), some (.int x), none, none]) (by decide) (Nat.le_of_ble_eq_true rfl) rfl (fun C fx hnm => ?_)
  have hS := hm.s
  have hN := hm.n
  refine am_aload_n fx dX7_cost_0 rfl ?_
  refine am_iconst (v := 0) fx dX7_cost_1 (by decide) ?_
  refine am_putI fx dX7_cost_2 fkX7_43 (by decide) (by decide) rfl rfl (so7 hb) ?_
  have hb : Bs (mm_sI μ 46 0 0) := hb.fr (Fr.sI _ _ _ _)
  have hm : Mt (mm_sI μ 46 0 0) S N cs := hm.keep (mI_ne (Or.inr (by decide))) (mI_ne (Or.inr (by decide))) (fun k => mI_ne (Or.inl (by decide)))
  obtain ⟨μ0, hM0⟩ : ∃ z, z = mm_sI μ 46 0 0 := ⟨_, rfl⟩
  rw [← hM0] at hb hm
  refine am_mem hM0.symm ?_
  refine am_aload_n fx dX7_cost_5 rfl ?_
  refine am_iload_n fx dX7_cost_6 rfl ?_
  refine am_callV fx dX7_cost_7 mkX7_56 (ct_X7_isSetting hb hm _) (so7 hb) ⟨by decide, rfl⟩ rfl (Nat.le_of_ble_eq_true rfl) ⟨by decide, by decide⟩ ⟨Nat.le_of_ble_eq_true rfl, Nat.le_of_ble_eq_true rfl⟩ rfl ?_
  rintro _ _ ⟨rfl, rfl⟩
  refine am_if_eq fx 21 dX7_cost_10 (by decide) (fun c10 => ?_) (fun c10 => ?_)
  · try simp (disch := omega) only [bz_0, Classical.not_not, Int32.not_le, Int32.not_lt, Nat.not_le, Nat.not_lt, nI_leI, nI_ltI, nI_eq, nI_le0, nI_lt0] at c10
    refine am_iconst (v := (-1)) fx dX7_cost_21 (by decide) ?_
    exact am_iret fx dX7_cost_22 (Or.inl ⟨fun h => c10 h.1, rfl, hM0⟩)
  · try simp (disch := omega) only [bz_0, Classical.not_not, Int32.not_le, Int32.not_lt, Nat.not_le, Nat.not_lt, nI_leI, nI_ltI, nI_eq, nI_le0, nI_lt0] at c10
    refine am_aload_n fx dX7_cost_13 rfl ?_
    refine am_iload_n fx dX7_cost_14 rfl ?_
    refine am_callV fx dX7_cost_15 mkX7_60 (ct_X7_isInstance hb hm _) (so7 hb) ⟨by decide, rfl⟩ rfl (Nat.le_of_ble_eq_true rfl) ⟨by decide, by decide⟩ ⟨Nat.le_of_ble_eq_true rfl, Nat.le_of_ble_eq_true rfl⟩ rfl ?_
    rintro _ _ ⟨rfl, rfl⟩
    refine am_if_ne fx 23 dX7_cost_18 (by decide) (fun c18 => ?_) (fun c18 => ?_)
    · try simp (disch := omega) only [bz_0, Classical.not_not, Int32.not_le, Int32.not_lt, Nat.not_le, Nat.not_lt, nI_leI, nI_ltI, nI_eq, nI_le0, nI_lt0] at c18
      refine am_iload_n fx dX7_cost_23 rfl ?_
      refine am_iconst (v := (-1)) fx dX7_cost_24 (by decide) ?_
      refine am_ldc fx dX7_cost_25 kdX7_63 ?_
      refine am_callS fx dX7_cost_27 mkX7_49 (ct_X7_in _ _ _) rfl (Nat.le_of_ble_eq_true rfl) ⟨by decide, by decide⟩ ⟨Nat.le_of_ble_eq_true rfl, Nat.le_of_ble_eq_true rfl⟩ rfl ?_
      rintro _ _ ⟨rfl, rfl⟩
      refine am_if_ne fx 36 dX7_cost_30 (by decide) (fun c30 => ?_) (fun c30 => ?_)
      · try simp (disch := omega) only [bz_0, Classical.not_not, Int32.not_le, Int32.not_lt, Nat.not_le, Nat.not_lt, nI_leI, nI_ltI, nI_eq, nI_le0, nI_lt0] at c30
        have hc1 : ((0 ≤ s ∧ s < nI S) ∧ (0 ≤ i ∧ i < nI N)) := ⟨c10, c18⟩
        obtain ⟨s', hs, es⟩ := nI_rg2 c10 (by omega)
        obtain ⟨i', hi, ei⟩ := nI_rg2 c18 (by omega)
        refine am_aload_n fx dX7_cost_36 rfl ?_
        refine am_getR fx dX7_cost_37 fkX7_17 (by decide) (by decide) rfl (so7 hb) (rf7_5 hb) ?_
        refine am_bipush (v := (nI 24)) fx dX7_cost_40 (by decide) ?_
        refine am_iload_n fx dX7_cost_42 rfl ?_
        refine am_imul fx dX7_cost_43 ?_
        refine am_iload_n fx dX7_cost_44 rfl ?_
        refine am_iadd fx dX7_cost_45 ?_
        refine am_iald (j := (24 * s' + i')) fx dX7_cost_46 (sa7_5 hb) (by rw [es, ei]; exact ix24 s' i') (by omega) (by decide) (hm.2.2.2.2.1 s' i' (by omega) (by omega)) ?_
        refine am_if_eq fx 53 dX7_cost_47 (by decide) (fun c47 => ?_) (fun c47 => ?_)
        · skip
          have c47 := (p1_0 _).mp c47
          have ct75 : am_W E C (am_MQ E C (fun v μ' => (¬ ((0 ≤ s ∧ s < nI S) ∧ (0 ≤ i ∧ i < nI N)) ∧ v = some (.int (-1)) ∧ μ' = mm_sI μ 46 0 0) ∨ (((0 ≤ s ∧ s < nI S) ∧ (0 ≤ i ∧ i < nI N)) ∧ ¬ (-1 ≤ x ∧ x ≤ 1000000) ∧ v = some (.int (-2)) ∧ μ' = mm_sI μ 46 0 0) ∨ (((0 ≤ s ∧ s < nI S) ∧ (0 ≤ i ∧ i < nI N)) ∧ (-1 ≤ x ∧ x ≤ 1000000) ∧ ∃ s' i' : Nat, s' < S ∧ i' < N ∧ s = nI s' ∧ i = nI i' ∧ ((¬ cs s' i' = -1 ∧ v = some (.int (-3)) ∧ μ' = mm_sI μ 46 0 0) ∨ (cs s' i' = -1 ∧ μ' = mm_sI (mm_sI μ 46 0 0) 49 (24 * s' + i') (if x < 0 then 2000001 else x + 1) ∧ v = some (.int (nI (cnt (fun k => decide (¬ mm_I μ' 49 (24 * s' + k) = 0)) 24))))))) (rmX7_cost).cells (rmX7_cost).slots) μ0 0 0 75 [some (.ref 46), some (.int s), some (.int i), some (.int x), none, none] [.int (if x < 0 then 2000001 else x + 1), .int (nI (24 * s' + i')), .ref 49] := by
            refine am_iast (j := (24 * s' + i')) fx dX7_cost_75 (sa7_5 hb) rfl (by omega) (by decide) ?_
            obtain ⟨M, hM⟩ : ∃ z, z = (mm_sI μ0 49 (24 * s' + i') (if x < 0 then 2000001 else x + 1)) := ⟨_, rfl⟩
            have hb : Bs M := by
              rw [hM]
              exact hb.fr (Fr.sI _ _ _ _)
            refine am_mem hM.symm ?_
            refine am_iconst (v := 0) fx dX7_cost_76 (by decide) ?_
            refine am_istore fx dX7_cost_77 (by decide) rfl ?_
            refine am_iconst (v := 0) fx dX7_cost_79 (by decide) ?_
            refine am_istore fx dX7_cost_80 (by decide) rfl ?_
            have lp82 : ∀ (mz : Nat) (r : Nat), 24 - r = mz → r ≤ 24 → am_W E C (am_MQ E C (fun v μ' => (¬ ((0 ≤ s ∧ s < nI S) ∧ (0 ≤ i ∧ i < nI N)) ∧ v = some (.int (-1)) ∧ μ' = mm_sI μ 46 0 0) ∨ (((0 ≤ s ∧ s < nI S) ∧ (0 ≤ i ∧ i < nI N)) ∧ ¬ (-1 ≤ x ∧ x ≤ 1000000) ∧ v = some (.int (-2)) ∧ μ' = mm_sI μ 46 0 0) ∨ (((0 ≤ s ∧ s < nI S) ∧ (0 ≤ i ∧ i < nI N)) ∧ (-1 ≤ x ∧ x ≤ 1000000) ∧ ∃ s' i' : Nat, s' < S ∧ i' < N ∧ s = nI s' ∧ i = nI i' ∧ ((¬ cs s' i' = -1 ∧ v = some (.int (-3)) ∧ μ' = mm_sI μ 46 0 0) ∨ (cs s' i' = -1 ∧ μ' = mm_sI (mm_sI μ 46 0 0) 49 (24 * s' + i') (if x < 0 then 2000001 else x + 1) ∧ v = some (.int (nI (cnt (fun k => decide (¬ mm_I μ' 49 (24 * s' + k) = 0)) 24))))))) (rmX7_cost).cells (rmX7_cost).slots) M 0 0 82 [some (.ref 46), some (.int s), some (.int i), some (.int x), some (.int (nI (cnt (fun k => decide (¬ mm_I M 49 (24 * s' + k) = 0)) r))), some (.int (nI r))] [] := by
              intro mz
              induction mz using Nat.strongRecOn with
              | ind mz ih =>
                intro r hz hr
                refine am_iload fx dX7_cost_82 rfl ?_
                refine am_bipush (v := (nI 24)) fx dX7_cost_84 (by decide) ?_
                refine am_icmp_ge fx 120 dX7_cost_86 (by decide) (fun c86 => ?_) (fun c86 => ?_)
                · try simp (disch := omega) only [bz_0, Classical.not_not, Int32.not_le, Int32.not_lt, Nat.not_le, Nat.not_lt, nI_leI, nI_ltI, nI_eq, nI_le0, nI_lt0] at c86
                  refine am_iload fx dX7_cost_120 rfl ?_
                  exact am_iret fx dX7_cost_122 (Or.inr (Or.inr ⟨hc1, c30, s', i', hs, hi, es, ei, Or.inr ⟨c47, by rw [hM, hM0], by rw [show (24 : Nat) = r by omega]⟩⟩))
                · try simp (disch := omega) only [bz_0, Classical.not_not, Int32.not_le, Int32.not_lt, Nat.not_le, Nat.not_lt, nI_leI, nI_ltI, nI_eq, nI_le0, nI_lt0] at c86
                  refine am_iload fx dX7_cost_89 rfl ?_
                  refine am_aload_n fx dX7_cost_91 rfl ?_
                  refine am_getR fx dX7_cost_92 fkX7_17 (by decide) (by decide) rfl (so7 hb) (rf7_5 hb) ?_
                  refine am_bipush (v := (nI 24)) fx dX7_cost_95 (by decide) ?_
                  refine am_iload_n fx dX7_cost_97 rfl ?_
                  refine am_imul fx dX7_cost_98 ?_
                  refine am_iload fx dX7_cost_99 rfl ?_
                  refine am_iadd fx dX7_cost_101 ?_
                  refine am_iald (j := (24 * s' + r)) fx dX7_cost_102 (sa7_5 hb) (by rw [es]; exact ix24 s' r) (by omega) (by decide) rfl ?_
                  refine am_if_eq fx 110 dX7_cost_103 (by decide) (fun c103 => ?_) (fun c103 => ?_)
                  · skip
                    refine am_iconst (v := 0) fx dX7_cost_110 (by decide) ?_
                    refine am_iadd fx dX7_cost_111 ?_
                    refine am_topi (Int32.add_zero _) ?_
                    refine am_istore fx dX7_cost_112 (by decide) rfl ?_
                    first | refine am_iinc fx dX7_cost_114 rfl (nI_inc _) (by decide) rfl ?_ | refine am_iinc fx dX7_cost_114 rfl rfl (by decide) rfl ?_
                    refine am_goto fx 82 dX7_cost_117 (by decide) ?_
                    rw [← cnt_f (b := fun k => decide (¬ mm_I M 49 (24 * s' + k) = 0)) (r := r) (by simp [c103])]
                    exact ih (24 - (r + 1)) (by omega) (r + 1) rfl (by omega)
                  · skip
                    refine am_iconst (v := 1) fx dX7_cost_106 (by decide) ?_
                    refine am_goto fx 111 dX7_cost_107 (by decide) ?_
                    refine am_iadd fx dX7_cost_111 ?_
                    refine am_topi (nI_1 _) ?_
                    refine am_istore fx dX7_cost_112 (by decide) rfl ?_
                    first | refine am_iinc fx dX7_cost_114 rfl (nI_inc _) (by decide) rfl ?_ | refine am_iinc fx dX7_cost_114 rfl rfl (by decide) rfl ?_
                    refine am_goto fx 82 dX7_cost_117 (by decide) ?_
                    rw [← cnt_t (b := fun k => decide (¬ mm_I M 49 (24 * s' + k) = 0)) (r := r) (by simp [c103])]
                    exact ih (24 - (r + 1)) (by omega) (r + 1) rfl (by omega)
            exact lp82 _ 0 rfl (Nat.zero_le _)
          refine am_aload_n fx dX7_cost_53 rfl ?_
          refine am_getR fx dX7_cost_54 fkX7_17 (by decide) (by decide) rfl (so7 hb) (rf7_5 hb) ?_
          refine am_bipush (v := (nI 24)) fx dX7_cost_57 (by decide) ?_
          refine am_iload_n fx dX7_cost_59 rfl ?_
          refine am_imul fx dX7_cost_60 ?_
          refine am_iload_n fx dX7_cost_61 rfl ?_
          refine am_iadd fx dX7_cost_62 ?_
          refine am_topi (show _ = nI (24 * s' + i') by rw [es, ei]; exact ix24 s' i') ?_
          refine am_iload_n fx dX7_cost_63 rfl ?_
          refine am_if_ge fx 72 dX7_cost_64 (by decide) (fun c64 => ?_) (fun c64 => ?_)
          · skip
            refine am_iload_n fx dX7_cost_72 rfl ?_
            refine am_iconst (v := 1) fx dX7_cost_73 (by decide) ?_
            refine am_iadd fx dX7_cost_74 ?_
            refine am_topi (show _ = (if x < 0 then (2000001 : Int32) else x + 1) from (if_neg (Int32.not_lt.mpr c64)).symm) ?_
            exact ct75
          · skip
            have c64 := Int32.not_le.mp c64
            refine am_ldc fx dX7_cost_67 kdX7_64 ?_
            refine am_goto fx 75 dX7_cost_69 (by decide) ?_
            refine am_topi (show _ = (if x < 0 then (2000001 : Int32) else x + 1) from (if_pos c64).symm) ?_
            exact ct75
        · skip
          have c47 : ¬ cs s' i' = -1 := fun z => c47 ((p1_0 _).mpr z)
          refine am_bipush (v := (-3)) fx dX7_cost_50 (by decide) ?_
          exact am_iret fx dX7_cost_52 (Or.inr (Or.inr ⟨hc1, c30, s', i', hs, hi, es, ei, Or.inl ⟨c47, rfl, hM0⟩⟩))
      · try simp (disch := omega) only [bz_0, Classical.not_not, Int32.not_le, Int32.not_lt, Nat.not_le, Nat.not_lt, nI_leI, nI_ltI, nI_eq, nI_le0, nI_lt0] at c30
        refine am_bipush (v := (-2)) fx dX7_cost_33 (by decide) ?_
        exact am_iret fx dX7_cost_35 (Or.inr (Or.inl ⟨⟨c10, c18⟩, c30, rfl, hM0⟩))
    · try simp (disch := omega) only [bz_0, Classical.not_not, Int32.not_le, Int32.not_lt, Nat.not_le, Nat.not_lt, nI_leI, nI_ltI, nI_eq, nI_le0, nI_lt0] at c18
      refine am_iconst (v := (-1)) fx dX7_cost_21 (by decide) ?_
      exact am_iret fx dX7_cost_22 (Or.inl ⟨fun h => c18 h.2, rfl, hM0⟩)
