theorem mS_fI (μ : am_M) (a : Nat) (g : Nat → Int32) : mm_S (mm_fI μ a g) = mm_S μ := rfl
theorem mR_fI (μ : am_M) (a : Nat) (g : Nat → Int32) : mm_R (mm_fI μ a g) = mm_R μ := rfl
theorem mZ_fI (μ : am_M) (a : Nat) (g : Nat → Int32) : mm_Z (mm_fI μ a g) = mm_Z μ := rfl
/-- what was there before is there, and nothing of it has changed -/
def Kp (μ μ' : am_M) : Prop := mm_Z μ ≤ mm_Z μ' ∧ (∀ a, a < mm_Z μ → mm_S μ' a = mm_S μ a) ∧ (∀ a k, a < mm_Z μ → mm_I μ' a k = mm_I μ a k) ∧ (∀ a k, a < mm_Z μ → mm_L μ' a k = mm_L μ a k) ∧ (∀ a k, a < mm_Z μ → mm_R μ' a k = mm_R μ a k)
theorem Kp.tr {μ μ' μ'' : am_M} (h : Kp μ μ') (h2 : Kp μ' μ'') : Kp μ μ'' := ⟨Nat.le_trans h.1 h2.1, fun a ha => (h2.2.1 a (Nat.lt_of_lt_of_le ha h.1)).trans (h.2.1 a ha), fun a k ha => (h2.2.2.1 a k (Nat.lt_of_lt_of_le ha h.1)).trans (h.2.2.1 a k ha), fun a k ha => (h2.2.2.2.1 a k (Nat.lt_of_lt_of_le ha h.1)).trans (h.2.2.2.1 a k ha), fun a k ha => (h2.2.2.2.2 a k (Nat.lt_of_lt_of_le ha h.1)).trans (h.2.2.2.2 a k ha)⟩
theorem Kp.nw (μ : am_M) (kd len : Nat) : Kp μ (mm_nw μ kd len) := ⟨by rw [mZ_nw]; omega, fun a ha => by rw [mS_nw, if_neg (by omega)], fun a k ha => by rw [mI_nw, if_neg (by omega)], fun a k ha => by rw [mL_nw, if_neg (by omega)], fun a k ha => by rw [mR_nw, if_neg (by omega)]⟩
theorem Kp.gr (μ : am_M) (n k : Nat) : Kp μ (mm_gr μ n k) := ⟨by rw [mZ_gr]; omega, fun a ha => by rw [mS_gr, if_neg (by omega), if_neg (by omega)], fun a k ha => by rw [mI_gr, if_neg (by omega)], fun a k ha => rfl, fun a k ha => by rw [mR_gr, if_neg (by omega)]⟩
theorem Bs.kp {μ μ' : am_M} (hb : Bs μ) (h : Kp μ μ') : Bs μ' := by
  have hz := hb.z
  have hl : ∀ r ∈ bs_ref, r.1 < 57 := by decide
  exact ⟨fun n h0 h1 => (h.2.1 n (by omega)).trans (hb.1 n h0 h1), fun r hr => (h.2.2.2.2 _ _ (by have := hl r hr; omega)).trans (hb.2.1 r hr), fun j hj => (h.2.2.2.2 _ _ (by omega)).trans (hb.2.2.1 j hj), fun j hj => (h.2.2.2.2 _ _ (by omega)).trans (hb.2.2.2.1 j hj), fun j hj => (h.2.2.2.2 _ _ (by omega)).trans (hb.2.2.2.2.1 j hj), by have := h.1; have := hb.2.2.2.2.2; omega⟩
theorem Tb.kp {μ μ' : am_M} {S N : Nat} (ht : Tb μ S N) (h : Kp μ μ') (hz : 57 ≤ mm_Z μ) : Tb μ' S N := ht.keep (h.2.2.1 _ _ (by omega)) (h.2.2.1 _ _ (by omega))
theorem Rc.kp {μ μ' : am_M} {q L : Nat} (hr : Rc μ q L) (h : Kp μ μ') (hz : q + 20 ≤ mm_Z μ) : Rc μ' q L := by
  obtain ⟨h0, h1⟩ := hr
  have e : ∀ a, a ≤ 19 → mm_S μ' (q + a) = mm_S μ (q + a) := fun a ha => h.2.1 _ (by omega)
  have r : ∀ a k, a ≤ 19 → mm_R μ' (q + a) k = mm_R μ (q + a) k := fun a k ha => h.2.2.2.2 _ _ (by omega)
  have e0 := h.2.1 q (by omega)
  refine ⟨h0, ?_⟩
  simp only [e 1 (by decide), e 2 (by decide), e 15 (by decide), e 16 (by decide), e 17 (by decide), e 18 (by decide), e 19 (by decide), e0, r 1 _ (by decide), r 2 _ (by decide)]
  obtain ⟨a1, a2, a3, a4, a5⟩ := h1
  exact ⟨a1, a2, a3, fun j hj => (h.2.1 _ (by omega)).trans (a4 j hj), a5⟩
theorem nw_so {μ : am_M} {a kd len : Nat} {p : Nat × Nat} (h : mm_S μ a = p) (hz : a < mm_Z μ) : mm_S (mm_nw μ kd len) a = p := by rw [mS_nw, if_neg (by omega)]; exact h
theorem gr_so {μ : am_M} {a n k : Nat} {p : Nat × Nat} (h : mm_S μ a = p) (hz : a < mm_Z μ) : mm_S (mm_gr μ n k) a = p := by rw [mS_gr, if_neg (by omega), if_neg (by omega)]; exact h
set_option maxRecDepth 100000 in
set_option maxHeartbeats 4000000 in
theorem ct_X3_init {E : am_E} {μ : am_M} {q : Nat} (hs : mm_S μ q = (3, 0)) (x0 x1 x2 x3 x4 x5 : Int32) : am_Ct E yX3_init cX3_init 7 none rmX3_init [.ref q, .int x0, .int x1, .int x2, .int x3, .int x4, .int x5] μ (fun v μ' => v = none ∧ μ' = mm_sI (mm_sI (mm_sI (mm_sI (mm_sI (mm_sI μ q 0 x0) q 1 x1) q 2 x2) q 3 x3) q 4 x4) q 5 x5) := by
  refine am_Ct.of (ls := [some (.ref q), some (.int x0), some (.int x1), some (.int x2), some (.int x3), some (.int x4), some (.int x5)]) (by decide) (Nat.le_of_ble_eq_true rfl) rfl (fun C fx hnm => ?_)
  refine am_aload_n fx dX3_init_0 rfl ?_
  refine am_objInit fx dX3_init_1 moX3_3 kw_oi kw_oc ⟨by decide, Nat.le_of_ble_eq_true rfl⟩ ?_
  refine am_aload_n fx dX3_init_4 rfl ?_
  refine am_iload_n fx dX3_init_5 rfl ?_
  refine am_putFI fx hnm dX3_init_6 fgX3_9 (by decide) (by decide) rfl rfl rfl (congrArg Prod.fst hs) ?_
  refine am_aload_n fx dX3_init_9 rfl ?_
  refine am_iload_n fx dX3_init_10 rfl ?_
  refine am_putFI fx hnm dX3_init_11 fgX3_15 (by decide) (by decide) rfl rfl rfl (congrArg Prod.fst hs) ?_
  refine am_aload_n fx dX3_init_14 rfl ?_
  refine am_iload_n fx dX3_init_15 rfl ?_
  refine am_putFI fx hnm dX3_init_16 fgX3_18 (by decide) (by decide) rfl rfl rfl (congrArg Prod.fst hs) ?_
  refine am_aload_n fx dX3_init_19 rfl ?_
  refine am_iload fx dX3_init_20 rfl ?_
  refine am_putFI fx hnm dX3_init_22 fgX3_21 (by decide) (by decide) rfl rfl rfl (congrArg Prod.fst hs) ?_
  refine am_aload_n fx dX3_init_25 rfl ?_
  refine am_iload fx dX3_init_26 rfl ?_
  refine am_putFI fx hnm dX3_init_28 fgX3_24 (by decide) (by decide) rfl rfl rfl (congrArg Prod.fst hs) ?_
  refine am_aload_n fx dX3_init_31 rfl ?_
  refine am_iload fx dX3_init_32 rfl ?_
  refine am_putFI fx hnm dX3_init_34 fgX3_27 (by decide) (by decide) rfl rfl rfl (congrArg Prod.fst hs) ?_
  exact am_vret fx dX3_init_37 ⟨rfl, rfl⟩
def RBd (x0 x1 x2 x3 x4 x5 : Int32) : Prop := ((0 ≤ x0 ∧ x0 ≤ 1) ∧ (1 ≤ x1 ∧ x1 ≤ nI 24) ∧ (1 ≤ x2 ∧ x2 ≤ nI 1000) ∧ (1 ≤ x3 ∧ x3 ≤ nI 1000) ∧ x2 ≤ x3 ∧ (1 ≤ x4 ∧ x4 ≤ nI 12) ∧ (0 ≤ x5 ∧ x5 ≤ nI 1000))
set_option maxRecDepth 100000 in
set_option maxHeartbeats 4000000 in
theorem ct_X3_areWithinBounds {E : am_E} {μ : am_M} (hb : Bs μ) {q : Nat} (hs : mm_S μ q = (3, 0)) : am_Ct E yX3_areWithinBounds cX3_areWithinBounds 1 (some .boolean) rmX3_areWithinBounds [.ref q] μ (fun v μ' => v = some (.int (bz ((0 ≤ mm_I μ q 0 ∧ mm_I μ q 0 ≤ 1) ∧ (1 ≤ mm_I μ q 1 ∧ mm_I μ q 1 ≤ nI 24) ∧ (1 ≤ mm_I μ q 2 ∧ mm_I μ q 2 ≤ nI 1000) ∧ (1 ≤ mm_I μ q 3 ∧ mm_I μ q 3 ≤ nI 1000) ∧ mm_I μ q 2 ≤ mm_I μ q 3 ∧ (1 ≤ mm_I μ q 4 ∧ mm_I μ q 4 ≤ nI 12) ∧ (0 ≤ mm_I μ q 5 ∧ mm_I μ q 5 ≤ nI 1000)))) ∧ μ = μ') := by
  refine am_Ct.of (ls := [some (.ref q)]) (by decide) (Nat.le_of_ble_eq_true rfl) rfl (fun C fx hnm => ?_)
  refine am_aload_n fx dX3_areWithinBounds_0 rfl ?_
  refine am_getI fx dX3_areWithinBounds_1 fkX3_9 (by decide) (by decide) rfl (congrArg Prod.fst hs) rfl ?_
  refine am_iconst (v := 0) fx dX3_areWithinBounds_4 (by decide) ?_
  refine am_iconst (v := 1) fx dX3_areWithinBounds_5 (by decide) ?_
  refine am_callS fx dX3_areWithinBounds_6 mkX3_30 (ct_X6_isWithin hb _ _ _) rfl (Nat.le_of_ble_eq_true rfl) ⟨by decide, by decide⟩ ⟨Nat.le_of_ble_eq_true rfl, Nat.le_of_ble_eq_true rfl⟩ rfl ?_
  rintro _ _ ⟨rfl, rfl⟩
  refine am_if_eq fx 95 dX3_areWithinBounds_9 (by decide) (fun c9 => ?_) (fun c9 => ?_)
  · try simp (disch := omega) only [bz_0, Classical.not_not, Int32.not_le, Int32.not_lt, Nat.not_le, Nat.not_lt, nI_leI, nI_ltI, nI_eq, nI_le0, nI_lt0] at c9
    refine am_iconst (v := 0) fx dX3_areWithinBounds_95 (by decide) ?_
    exact am_zret fx dX3_areWithinBounds_96 (by first | exact Or.inl rfl | exact Or.inr rfl | exact bz_01) ⟨by rw [← bz_f (fun h => c9 h.1)], rfl⟩
  · try simp (disch := omega) only [bz_0, Classical.not_not, Int32.not_le, Int32.not_lt, Nat.not_le, Nat.not_lt, nI_leI, nI_ltI, nI_eq, nI_le0, nI_lt0] at c9
    refine am_aload_n fx dX3_areWithinBounds_12 rfl ?_
    refine am_getI fx dX3_areWithinBounds_13 fkX3_15 (by decide) (by decide) rfl (congrArg Prod.fst hs) rfl ?_
    refine am_iconst (v := 1) fx dX3_areWithinBounds_16 (by decide) ?_
    refine am_bipush (v := (nI 24)) fx dX3_areWithinBounds_17 (by decide) ?_
    refine am_callS fx dX3_areWithinBounds_19 mkX3_30 (ct_X6_isWithin hb _ _ _) rfl (Nat.le_of_ble_eq_true rfl) ⟨by decide, by decide⟩ ⟨Nat.le_of_ble_eq_true rfl, Nat.le_of_ble_eq_true rfl⟩ rfl ?_
    rintro _ _ ⟨rfl, rfl⟩
    refine am_if_eq fx 95 dX3_areWithinBounds_22 (by decide) (fun c22 => ?_) (fun c22 => ?_)
    · try simp (disch := omega) only [bz_0, Classical.not_not, Int32.not_le, Int32.not_lt, Nat.not_le, Nat.not_lt, nI_leI, nI_ltI, nI_eq, nI_le0, nI_lt0] at c22
      refine am_iconst (v := 0) fx dX3_areWithinBounds_95 (by decide) ?_
      exact am_zret fx dX3_areWithinBounds_96 (by first | exact Or.inl rfl | exact Or.inr rfl | exact bz_01) ⟨by rw [← bz_f (fun h => c22 h.2.1)], rfl⟩
    · try simp (disch := omega) only [bz_0, Classical.not_not, Int32.not_le, Int32.not_lt, Nat.not_le, Nat.not_lt, nI_leI, nI_ltI, nI_eq, nI_le0, nI_lt0] at c22
      refine am_aload_n fx dX3_areWithinBounds_25 rfl ?_
      refine am_getI fx dX3_areWithinBounds_26 fkX3_18 (by decide) (by decide) rfl (congrArg Prod.fst hs) rfl ?_
      refine am_iconst (v := 1) fx dX3_areWithinBounds_29 (by decide) ?_
      refine am_sipush (v := (nI 1000)) fx dX3_areWithinBounds_30 (by decide) ?_
      refine am_callS fx dX3_areWithinBounds_33 mkX3_30 (ct_X6_isWithin hb _ _ _) rfl (Nat.le_of_ble_eq_true rfl) ⟨by decide, by decide⟩ ⟨Nat.le_of_ble_eq_true rfl, Nat.le_of_ble_eq_true rfl⟩ rfl ?_
      rintro _ _ ⟨rfl, rfl⟩
      refine am_if_eq fx 95 dX3_areWithinBounds_36 (by decide) (fun c36 => ?_) (fun c36 => ?_)
      · try simp (disch := omega) only [bz_0, Classical.not_not, Int32.not_le, Int32.not_lt, Nat.not_le, Nat.not_lt, nI_leI, nI_ltI, nI_eq, nI_le0, nI_lt0] at c36
        refine am_iconst (v := 0) fx dX3_areWithinBounds_95 (by decide) ?_
        exact am_zret fx dX3_areWithinBounds_96 (by first | exact Or.inl rfl | exact Or.inr rfl | exact bz_01) ⟨by rw [← bz_f (fun h => c36 h.2.2.1)], rfl⟩
      · try simp (disch := omega) only [bz_0, Classical.not_not, Int32.not_le, Int32.not_lt, Nat.not_le, Nat.not_lt, nI_leI, nI_ltI, nI_eq, nI_le0, nI_lt0] at c36
        refine am_aload_n fx dX3_areWithinBounds_39 rfl ?_
        refine am_getI fx dX3_areWithinBounds_40 fkX3_21 (by decide) (by decide) rfl (congrArg Prod.fst hs) rfl ?_
        refine am_iconst (v := 1) fx dX3_areWithinBounds_43 (by decide) ?_
        refine am_sipush (v := (nI 1000)) fx dX3_areWithinBounds_44 (by decide) ?_
        refine am_callS fx dX3_areWithinBounds_47 mkX3_30 (ct_X6_isWithin hb _ _ _) rfl (Nat.le_of_ble_eq_true rfl) ⟨by decide, by decide⟩ ⟨Nat.le_of_ble_eq_true rfl, Nat.le_of_ble_eq_true rfl⟩ rfl ?_
        rintro _ _ ⟨rfl, rfl⟩
        refine am_if_eq fx 95 dX3_areWithinBounds_50 (by decide) (fun c50 => ?_) (fun c50 => ?_)
        · try simp (disch := omega) only [bz_0, Classical.not_not, Int32.not_le, Int32.not_lt, Nat.not_le, Nat.not_lt, nI_leI, nI_ltI, nI_eq, nI_le0, nI_lt0] at c50
          refine am_iconst (v := 0) fx dX3_areWithinBounds_95 (by decide) ?_
          exact am_zret fx dX3_areWithinBounds_96 (by first | exact Or.inl rfl | exact Or.inr rfl | exact bz_01) ⟨by rw [← bz_f (fun h => c50 h.2.2.2.1)], rfl⟩
        · try simp (disch := omega) only [bz_0, Classical.not_not, Int32.not_le, Int32.not_lt, Nat.not_le, Nat.not_lt, nI_leI, nI_ltI, nI_eq, nI_le0, nI_lt0] at c50
          refine am_aload_n fx dX3_areWithinBounds_53 rfl ?_
          refine am_getI fx dX3_areWithinBounds_54 fkX3_18 (by decide) (by decide) rfl (congrArg Prod.fst hs) rfl ?_
          refine am_aload_n fx dX3_areWithinBounds_57 rfl ?_
          refine am_getI fx dX3_areWithinBounds_58 fkX3_21 (by decide) (by decide) rfl (congrArg Prod.fst hs) rfl ?_
          refine am_icmp_gt fx 95 dX3_areWithinBounds_61 (by decide) (fun c61 => ?_) (fun c61 => ?_)
          · skip
            refine am_iconst (v := 0) fx dX3_areWithinBounds_95 (by decide) ?_
            exact am_zret fx dX3_areWithinBounds_96 (by first | exact Or.inl rfl | exact Or.inr rfl | exact bz_01) ⟨by rw [← bz_f (fun h => (Int32.not_le.mpr c61) h.2.2.2.2.1)], rfl⟩
          · skip
            refine am_aload_n fx dX3_areWithinBounds_64 rfl ?_
            refine am_getI fx dX3_areWithinBounds_65 fkX3_24 (by decide) (by decide) rfl (congrArg Prod.fst hs) rfl ?_
            refine am_iconst (v := 1) fx dX3_areWithinBounds_68 (by decide) ?_
            refine am_bipush (v := (nI 12)) fx dX3_areWithinBounds_69 (by decide) ?_
            refine am_callS fx dX3_areWithinBounds_71 mkX3_30 (ct_X6_isWithin hb _ _ _) rfl (Nat.le_of_ble_eq_true rfl) ⟨by decide, by decide⟩ ⟨Nat.le_of_ble_eq_true rfl, Nat.le_of_ble_eq_true rfl⟩ rfl ?_
            rintro _ _ ⟨rfl, rfl⟩
            refine am_if_eq fx 95 dX3_areWithinBounds_74 (by decide) (fun c74 => ?_) (fun c74 => ?_)
            · try simp (disch := omega) only [bz_0, Classical.not_not, Int32.not_le, Int32.not_lt, Nat.not_le, Nat.not_lt, nI_leI, nI_ltI, nI_eq, nI_le0, nI_lt0] at c74
              refine am_iconst (v := 0) fx dX3_areWithinBounds_95 (by decide) ?_
              exact am_zret fx dX3_areWithinBounds_96 (by first | exact Or.inl rfl | exact Or.inr rfl | exact bz_01) ⟨by rw [← bz_f (fun h => c74 h.2.2.2.2.2.1)], rfl⟩
            · try simp (disch := omega) only [bz_0, Classical.not_not, Int32.not_le, Int32.not_lt, Nat.not_le, Nat.not_lt, nI_leI, nI_ltI, nI_eq, nI_le0, nI_lt0] at c74
              refine am_aload_n fx dX3_areWithinBounds_77 rfl ?_
              refine am_getI fx dX3_areWithinBounds_78 fkX3_27 (by decide) (by decide) rfl (congrArg Prod.fst hs) rfl ?_
              refine am_iconst (v := 0) fx dX3_areWithinBounds_81 (by decide) ?_
              refine am_sipush (v := (nI 1000)) fx dX3_areWithinBounds_82 (by decide) ?_
              refine am_callS fx dX3_areWithinBounds_85 mkX3_30 (ct_X6_isWithin hb _ _ _) rfl (Nat.le_of_ble_eq_true rfl) ⟨by decide, by decide⟩ ⟨Nat.le_of_ble_eq_true rfl, Nat.le_of_ble_eq_true rfl⟩ rfl ?_
              rintro _ _ ⟨rfl, rfl⟩
              refine am_if_eq fx 95 dX3_areWithinBounds_88 (by decide) (fun c88 => ?_) (fun c88 => ?_)
              · try simp (disch := omega) only [bz_0, Classical.not_not, Int32.not_le, Int32.not_lt, Nat.not_le, Nat.not_lt, nI_leI, nI_ltI, nI_eq, nI_le0, nI_lt0] at c88
                refine am_iconst (v := 0) fx dX3_areWithinBounds_95 (by decide) ?_
                exact am_zret fx dX3_areWithinBounds_96 (by first | exact Or.inl rfl | exact Or.inr rfl | exact bz_01) ⟨by rw [← bz_f (fun h => c88 h.2.2.2.2.2.2)], rfl⟩
              · try simp (disch := omega) only [bz_0, Classical.not_not, Int32.not_le, Int32.not_lt, Nat.not_le, Nat.not_lt, nI_leI, nI_ltI, nI_eq, nI_le0, nI_lt0] at c88
                refine am_iconst (v := 1) fx dX3_areWithinBounds_91 (by decide) ?_
                refine am_goto fx 96 dX3_areWithinBounds_92 (by decide) ?_
                exact am_zret fx dX3_areWithinBounds_96 (by first | exact Or.inl rfl | exact Or.inr rfl | exact bz_01) ⟨by rw [← bz_t ⟨c9, c22, c36, c50, Int32.not_lt.mp c61, c74, c88⟩], rfl⟩
/-- .. but of what lies below z alone -/
def Kp2 (μ μ' : am_M) (z : Nat) : Prop := (∀ a, a < z → mm_S μ' a = mm_S μ a) ∧ (∀ a k, a < z → mm_I μ' a k = mm_I μ a k) ∧ (∀ a k, a < z → mm_L μ' a k = mm_L μ a k) ∧ (∀ a k, a < z → mm_R μ' a k = mm_R μ a k)
theorem Bs.kp2 {μ μ' : am_M} {z : Nat} (hb : Bs μ) (h : Kp2 μ μ' z) (hz : 57 ≤ z) (hz2 : 57 ≤ mm_Z μ') : Bs μ' := by
  have hl : ∀ r ∈ bs_ref, r.1 < 57 := by decide
  exact ⟨fun n h0 h1 => (h.1 n (by omega)).trans (hb.1 n h0 h1), fun r hr => (h.2.2.2 _ _ (by have := hl r hr; omega)).trans (hb.2.1 r hr), fun j hj => (h.2.2.2 _ _ (by omega)).trans (hb.2.2.1 j hj), fun j hj => (h.2.2.2 _ _ (by omega)).trans (hb.2.2.2.1 j hj), fun j hj => (h.2.2.2 _ _ (by omega)).trans (hb.2.2.2.2.1 j hj), hz2⟩
abbrev riM (μ : am_M) (q : Nat) : am_M := mm_sR (mm_sR (mm_sR (mm_sI (mm_sI (mm_sI (mm_sI (mm_sR (mm_nw (mm_sR (mm_nw (mm_sR (mm_nw (mm_sR (mm_nw (mm_sR (mm_gr μ 12 24) (q + 1) 5 (some (mm_Z μ))) 8 12) (q + 1) 6 (some (mm_Z (mm_sR (mm_gr μ 12 24) (q + 1) 5 (some (mm_Z μ)))))) 8 12) (q + 1) 7 (some (mm_Z (mm_sR (mm_nw (mm_sR (mm_gr μ 12 24) (q + 1) 5 (some (mm_Z μ))) 8 12) (q + 1) 6 (some (mm_Z (mm_sR (mm_gr μ 12 24) (q + 1) 5 (some (mm_Z μ))))))))) 8 12) (q + 1) 8 (some (mm_Z (mm_sR (mm_nw (mm_sR (mm_nw (mm_sR (mm_gr μ 12 24) (q + 1) 5 (some (mm_Z μ))) 8 12) (q + 1) 6 (some (mm_Z (mm_sR (mm_gr μ 12 24) (q + 1) 5 (some (mm_Z μ)))))) 8 12) (q + 1) 7 (some (mm_Z (mm_sR (mm_nw (mm_sR (mm_gr μ 12 24) (q + 1) 5 (some (mm_Z μ))) 8 12) (q + 1) 6 (some (mm_Z (mm_sR (mm_gr μ 12 24) (q + 1) 5 (some (mm_Z μ)))))))))))) 8 12) (q + 1) 9 (some (mm_Z (mm_sR (mm_nw (mm_sR (mm_nw (mm_sR (mm_nw (mm_sR (mm_gr μ 12 24) (q + 1) 5 (some (mm_Z μ))) 8 12) (q + 1) 6 (some (mm_Z (mm_sR (mm_gr μ 12 24) (q + 1) 5 (some (mm_Z μ)))))) 8 12) (q + 1) 7 (some (mm_Z (mm_sR (mm_nw (mm_sR (mm_gr μ 12 24) (q + 1) 5 (some (mm_Z μ))) 8 12) (q + 1) 6 (some (mm_Z (mm_sR (mm_gr μ 12 24) (q + 1) 5 (some (mm_Z μ))))))))) 8 12) (q + 1) 8 (some (mm_Z (mm_sR (mm_nw (mm_sR (mm_nw (mm_sR (mm_gr μ 12 24) (q + 1) 5 (some (mm_Z μ))) 8 12) (q + 1) 6 (some (mm_Z (mm_sR (mm_gr μ 12 24) (q + 1) 5 (some (mm_Z μ)))))) 8 12) (q + 1) 7 (some (mm_Z (mm_sR (mm_nw (mm_sR (mm_gr μ 12 24) (q + 1) 5 (some (mm_Z μ))) 8 12) (q + 1) 6 (some (mm_Z (mm_sR (mm_gr μ 12 24) (q + 1) 5 (some (mm_Z μ))))))))))))))) (q + 1) 11 0) (q + 1) 12 0) (q + 1) 13 0) (q + 1) 14 0) (q + 1) 0 (some 2)) (q + 1) 1 (some 21)) (q + 1) 2 (some q)
theorem riM_kp {μ : am_M} {q : Nat} (hz : mm_Z μ = q + 2) : Kp2 μ (riM μ q) (q + 1) := by
  refine ⟨fun a ha => ?_, fun a k ha => ?_, fun a k ha => ?_, fun a k ha => ?_⟩
  all_goals
    simp only [mS_sI, mS_sL, mS_sR, mI_sL, mI_sR, mL_sI, mL_sR, mR_sI, mR_sL, mZ_sI, mZ_sL, mZ_sR, mI_sI, mR_sR, mS_nw, mI_nw, mL_nw, mR_nw, mZ_nw, mS_gr, mI_gr, mL_gr, mR_gr, mZ_gr, mI_fI, mL_fI, mS_fI, mR_fI, mZ_fI, hz]
    repeat (first | rw [if_neg (by omega)] | rw [if_pos (by omega)])
theorem riM_z {μ : am_M} {q : Nat} (hz : mm_Z μ = q + 2) : mm_Z (riM μ q) = q + 19 := by
  show mm_Z μ + 1 + 12 + 1 + 1 + 1 + 1 = _
  omega
theorem riM_all {μ : am_M} (hb : Bs μ) {S N q : Nat} (hN : N ≤ 24) (hq : 57 ≤ q) (h3 : mm_S μ q = (3, 0)) (h2 : mm_S μ (q + 1) = (2, 0)) (hz : mm_Z μ = q + 2) : Kp2 μ (mm_sI (mm_sI (mm_sR (mm_fI (mm_nw (riM μ q) 8 (cnt (lrn μ) N)) (mm_Z (riM μ q)) (fil (lrn (riM μ q)) (fun _ => 0) N)) (q + 1) 3 (some (mm_Z (riM μ q)))) (q + 1) 4 (nI S)) (q + 1) 10 (nI S)) (q + 1) ∧ Rc (mm_sI (mm_sI (mm_sR (mm_fI (mm_nw (riM μ q) 8 (cnt (lrn μ) N)) (mm_Z (riM μ q)) (fil (lrn (riM μ q)) (fun _ => 0) N)) (q + 1) 3 (some (mm_Z (riM μ q)))) (q + 1) 4 (nI S)) (q + 1) 10 (nI S)) q (cnt (lrn μ) N) ∧ mm_Z (mm_sI (mm_sI (mm_sR (mm_fI (mm_nw (riM μ q) 8 (cnt (lrn μ) N)) (mm_Z (riM μ q)) (fil (lrn (riM μ q)) (fun _ => 0) N)) (q + 1) 3 (some (mm_Z (riM μ q)))) (q + 1) 4 (nI S)) (q + 1) 10 (nI S)) = q + 20 ∧ mm_I (mm_sI (mm_sI (mm_sR (mm_fI (mm_nw (riM μ q) 8 (cnt (lrn μ) N)) (mm_Z (riM μ q)) (fil (lrn (riM μ q)) (fun _ => 0) N)) (q + 1) 3 (some (mm_Z (riM μ q)))) (q + 1) 4 (nI S)) (q + 1) 10 (nI S)) (q + 1) 4 = nI S ∧ mm_I (mm_sI (mm_sI (mm_sR (mm_fI (mm_nw (riM μ q) 8 (cnt (lrn μ) N)) (mm_Z (riM μ q)) (fil (lrn (riM μ q)) (fun _ => 0) N)) (q + 1) 3 (some (mm_Z (riM μ q)))) (q + 1) 4 (nI S)) (q + 1) 10 (nI S)) (q + 1) 10 = nI S ∧ mm_I (mm_sI (mm_sI (mm_sR (mm_fI (mm_nw (riM μ q) 8 (cnt (lrn μ) N)) (mm_Z (riM μ q)) (fil (lrn (riM μ q)) (fun _ => 0) N)) (q + 1) 3 (some (mm_Z (riM μ q)))) (q + 1) 4 (nI S)) (q + 1) 10 (nI S)) (q + 1) 11 = 0 ∧ mm_I (mm_sI (mm_sI (mm_sR (mm_fI (mm_nw (riM μ q) 8 (cnt (lrn μ) N)) (mm_Z (riM μ q)) (fil (lrn (riM μ q)) (fun _ => 0) N)) (q + 1) 3 (some (mm_Z (riM μ q)))) (q + 1) 4 (nI S)) (q + 1) 10 (nI S)) (q + 1) 12 = 0 ∧ mm_I (mm_sI (mm_sI (mm_sR (mm_fI (mm_nw (riM μ q) 8 (cnt (lrn μ) N)) (mm_Z (riM μ q)) (fil (lrn (riM μ q)) (fun _ => 0) N)) (q + 1) 3 (some (mm_Z (riM μ q)))) (q + 1) 4 (nI S)) (q + 1) 10 (nI S)) (q + 1) 13 = 0 ∧ (∀ k, mm_I (mm_sI (mm_sI (mm_sR (mm_fI (mm_nw (riM μ q) 8 (cnt (lrn μ) N)) (mm_Z (riM μ q)) (fil (lrn (riM μ q)) (fun _ => 0) N)) (q + 1) 3 (some (mm_Z (riM μ q)))) (q + 1) 4 (nI S)) (q + 1) 10 (nI S)) (q + 15) k = 0) ∧ (∀ k, mm_I (mm_sI (mm_sI (mm_sR (mm_fI (mm_nw (riM μ q) 8 (cnt (lrn μ) N)) (mm_Z (riM μ q)) (fil (lrn (riM μ q)) (fun _ => 0) N)) (q + 1) 3 (some (mm_Z (riM μ q)))) (q + 1) 4 (nI S)) (q + 1) 10 (nI S)) (q + 16) k = 0) ∧ (∀ k, mm_I (mm_sI (mm_sI (mm_sR (mm_fI (mm_nw (riM μ q) 8 (cnt (lrn μ) N)) (mm_Z (riM μ q)) (fil (lrn (riM μ q)) (fun _ => 0) N)) (q + 1) 3 (some (mm_Z (riM μ q)))) (q + 1) 4 (nI S)) (q + 1) 10 (nI S)) (q + 19) k = fil (lrn μ) (fun _ => 0) N k) := by
  have hcN := cnt_le (lrn μ) N
  have hl : lrn (riM μ q) = lrn μ := funext fun k => by
    show decide (¬ mm_I (riM μ q) 20 k = 0) = _
    rw [(riM_kp hz).2.1 20 k (by omega)]
  rw [hl]
  refine ⟨⟨fun a ha => ?_, fun a k ha => ?_, fun a k ha => ?_, fun a k ha => ?_⟩, ⟨hq, ?_, ?_, ?_, fun j hj => ?_, ?_, ?_, ?_, ?_, ?_, by omega, ?_, ?_, ?_, ?_, ?_, ?_, ?_, ?_, ?_, fun j hj => ?_⟩, ?_, ?_, ?_, ?_, ?_, ?_, fun k => ?_, fun k => ?_, fun k => ?_⟩
  all_goals
    simp only [mS_sI, mS_sL, mS_sR, mI_sL, mI_sR, mL_sI, mL_sR, mR_sI, mR_sL, mZ_sI, mZ_sL, mZ_sR, mI_sI, mR_sR, mS_nw, mI_nw, mL_nw, mR_nw, mZ_nw, mS_gr, mI_gr, mL_gr, mR_gr, mZ_gr, mI_fI, mL_fI, mS_fI, mR_fI, mZ_fI, hz]
    repeat (first | rw [if_neg (by omega)] | rw [if_pos (by omega)])
  all_goals
    first | assumption | (congr 1; omega) | rfl | (rw [if_pos trivial, if_pos hj]; try (congr 1; omega))
set_option maxRecDepth 100000 in
set_option maxHeartbeats 4000000 in
theorem ct_X2_init {E : am_E} {μ : am_M} (hb : Bs μ) {S N q : Nat} (ht : Tb μ S N) (hq : 57 ≤ q) (h3 : mm_S μ q = (3, 0)) (h2 : mm_S μ (q + 1) = (2, 0)) (hz : mm_Z μ = q + 2) : am_Ct E yX2_init cX2_init 4 none rmX2_init [.ref (q + 1), .ref 2, .ref 21, .ref q] μ (fun v μ' => v = none ∧ Kp2 μ μ' (q + 1) ∧ Rc μ' q (cnt (lrn μ) N) ∧ mm_Z μ' = q + 20 ∧ mm_I μ' (q + 1) 4 = nI S ∧ mm_I μ' (q + 1) 10 = nI S ∧ mm_I μ' (q + 1) 11 = 0 ∧ mm_I μ' (q + 1) 12 = 0 ∧ mm_I μ' (q + 1) 13 = 0 ∧ (∀ k, mm_I μ' (q + 15) k = 0) ∧ (∀ k, mm_I μ' (q + 16) k = 0) ∧ (∀ k, mm_I μ' (q + 19) k = fil (lrn μ) (fun _ => 0) N k)) := by
  refine am_Ct.of (ls := [some (.ref (q + 1)), some (.ref 2), some (.ref 21), some (.ref q)]) (by decide) (Nat.le_of_ble_eq_true rfl) rfl (fun C fx hnm => ?_)
  have hN := ht.n
  have hcN := cnt_le (lrn μ) N
  refine am_aload_n fx dX2_init_0 rfl ?_
  refine am_objInit fx dX2_init_1 moX2_3 kw_oi kw_oc ⟨by decide, Nat.le_of_ble_eq_true rfl⟩ ?_
  refine am_aload_n fx dX2_init_4 rfl ?_
  refine am_bipush (v := (nI 12)) fx dX2_init_5 (by decide) ?_
  refine am_bipush (v := (nI 24)) fx dX2_init_7 (by decide) ?_
  refine am_mna fx dX2_init_9 klX2_9 kw_aint rfl rfl (by decide) (by decide) (by decide) (by decide) ?_
  refine am_putFR fx hnm dX2_init_13 fgX2_11 (by decide) (by decide) rfl rfl rfl (congrArg Prod.fst (gr_so h2 (by omega))) ?_
  have s1 : mm_S (mm_sR (mm_gr μ 12 24) (q + 1) 5 (some (mm_Z μ))) (q + 1) = (2, 0) := gr_so h2 (by omega)
  have z1 : mm_Z (mm_sR (mm_gr μ 12 24) (q + 1) 5 (some (mm_Z μ))) = q + 15 := by
    show mm_Z μ + 1 + 12 = _
    omega
  generalize hM1 : mm_sR (mm_gr μ 12 24) (q + 1) 5 (some (mm_Z μ)) = M1 at s1 z1 ⊢
  refine am_aload_n fx dX2_init_16 rfl ?_
  refine am_bipush (v := (nI 12)) fx dX2_init_17 (by decide) ?_
  refine am_newarr fx dX2_init_19 (Or.inl ⟨rfl, rfl⟩) kw_aint rfl (by decide) (by decide) (by decide) ?_
  refine am_putFR fx hnm dX2_init_21 fgX2_16 (by decide) (by decide) rfl rfl rfl (congrArg Prod.fst (nw_so s1 (by omega))) ?_
  have s2 : mm_S (mm_sR (mm_nw M1 8 12) (q + 1) 6 (some (mm_Z M1))) (q + 1) = (2, 0) := nw_so s1 (by omega)
  have z2 : mm_Z (mm_sR (mm_nw M1 8 12) (q + 1) 6 (some (mm_Z M1))) = q + 16 := by
    show mm_Z M1 + 1 = _
    omega
  generalize hM2 : mm_sR (mm_nw M1 8 12) (q + 1) 6 (some (mm_Z M1)) = M2 at s2 z2 ⊢
  refine am_aload_n fx dX2_init_24 rfl ?_
  refine am_bipush (v := (nI 12)) fx dX2_init_25 (by decide) ?_
  refine am_newarr fx dX2_init_27 (Or.inl ⟨rfl, rfl⟩) kw_aint rfl (by decide) (by decide) (by decide) ?_
  refine am_putFR fx hnm dX2_init_29 fgX2_20 (by decide) (by decide) rfl rfl rfl (congrArg Prod.fst (nw_so s2 (by omega))) ?_
  have s3 : mm_S (mm_sR (mm_nw M2 8 12) (q + 1) 7 (some (mm_Z M2))) (q + 1) = (2, 0) := nw_so s2 (by omega)
  have z3 : mm_Z (mm_sR (mm_nw M2 8 12) (q + 1) 7 (some (mm_Z M2))) = q + 17 := by
    show mm_Z M2 + 1 = _
    omega
  generalize hM3 : mm_sR (mm_nw M2 8 12) (q + 1) 7 (some (mm_Z M2)) = M3 at s3 z3 ⊢
  refine am_aload_n fx dX2_init_32 rfl ?_
  refine am_bipush (v := (nI 12)) fx dX2_init_33 (by decide) ?_
  refine am_newarr fx dX2_init_35 (Or.inl ⟨rfl, rfl⟩) kw_aint rfl (by decide) (by decide) (by decide) ?_
  refine am_putFR fx hnm dX2_init_37 fgX2_23 (by decide) (by decide) rfl rfl rfl (congrArg Prod.fst (nw_so s3 (by omega))) ?_
  have s4 : mm_S (mm_sR (mm_nw M3 8 12) (q + 1) 8 (some (mm_Z M3))) (q + 1) = (2, 0) := nw_so s3 (by omega)
  have z4 : mm_Z (mm_sR (mm_nw M3 8 12) (q + 1) 8 (some (mm_Z M3))) = q + 18 := by
    show mm_Z M3 + 1 = _
    omega
  generalize hM4 : mm_sR (mm_nw M3 8 12) (q + 1) 8 (some (mm_Z M3)) = M4 at s4 z4 ⊢
  refine am_aload_n fx dX2_init_40 rfl ?_
  refine am_bipush (v := (nI 12)) fx dX2_init_41 (by decide) ?_
  refine am_newarr fx dX2_init_43 (Or.inl ⟨rfl, rfl⟩) kw_aint rfl (by decide) (by decide) (by decide) ?_
  refine am_putFR fx hnm dX2_init_45 fgX2_26 (by decide) (by decide) rfl rfl rfl (congrArg Prod.fst (nw_so s4 (by omega))) ?_
  have s5 : mm_S (mm_sR (mm_nw M4 8 12) (q + 1) 9 (some (mm_Z M4))) (q + 1) = (2, 0) := nw_so s4 (by omega)
  have z5 : mm_Z (mm_sR (mm_nw M4 8 12) (q + 1) 9 (some (mm_Z M4))) = q + 19 := by
    show mm_Z M4 + 1 = _
    omega
  generalize hM5 : mm_sR (mm_nw M4 8 12) (q + 1) 9 (some (mm_Z M4)) = M5 at s5 z5 ⊢
  refine am_aload_n fx dX2_init_48 rfl ?_
  refine am_iconst (v := 0) fx dX2_init_49 (by decide) ?_
  refine am_putI fx dX2_init_50 fkX2_29 (by decide) (by decide) rfl rfl (congrArg Prod.fst s5) ?_
  refine am_aload_n fx dX2_init_53 rfl ?_
  refine am_iconst (v := 0) fx dX2_init_54 (by decide) ?_
  refine am_putI fx dX2_init_55 fkX2_33 (by decide) (by decide) rfl rfl (congrArg Prod.fst s5) ?_
  refine am_aload_n fx dX2_init_58 rfl ?_
  refine am_iconst (v := 0) fx dX2_init_59 (by decide) ?_
  refine am_putI fx dX2_init_60 fkX2_36 (by decide) (by decide) rfl rfl (congrArg Prod.fst s5) ?_
  refine am_aload_n fx dX2_init_63 rfl ?_
  refine am_iconst (v := 0) fx dX2_init_64 (by decide) ?_
  refine am_putI fx dX2_init_65 fkX2_39 (by decide) (by decide) rfl rfl (congrArg Prod.fst s5) ?_
  refine am_aload_n fx dX2_init_68 rfl ?_
  refine am_aload_n fx dX2_init_69 rfl ?_
  refine am_putFR fx hnm dX2_init_70 fgX2_42 (by decide) (by decide) rfl rfl rfl (congrArg Prod.fst s5) ?_
  refine am_aload_n fx dX2_init_73 rfl ?_
  refine am_aload_n fx dX2_init_74 rfl ?_
  refine am_putFR fx hnm dX2_init_75 fgX2_46 (by decide) (by decide) rfl rfl rfl (congrArg Prod.fst s5) ?_
  refine am_aload_n fx dX2_init_78 rfl ?_
  refine am_aload_n fx dX2_init_79 rfl ?_
  refine am_putFR fx hnm dX2_init_80 fgX2_50 (by decide) (by decide) rfl rfl rfl (congrArg Prod.fst s5) ?_
  have s6 : mm_S (mm_sR (mm_sR (mm_sR (mm_sI (mm_sI (mm_sI (mm_sI (M5) (q + 1) 11 0) (q + 1) 12 0) (q + 1) 13 0) (q + 1) 14 0) (q + 1) 0 (some 2)) (q + 1) 1 (some 21)) (q + 1) 2 (some q)) (q + 1) = (2, 0) := s5
  have z6 : mm_Z (mm_sR (mm_sR (mm_sR (mm_sI (mm_sI (mm_sI (mm_sI (M5) (q + 1) 11 0) (q + 1) 12 0) (q + 1) 13 0) (q + 1) 14 0) (q + 1) 0 (some 2)) (q + 1) 1 (some 21)) (q + 1) 2 (some q)) = q + 19 := z5
  generalize hM6 : mm_sR (mm_sR (mm_sR (mm_sI (mm_sI (mm_sI (mm_sI (M5) (q + 1) 11 0) (q + 1) 12 0) (q + 1) 13 0) (q + 1) 14 0) (q + 1) 0 (some 2)) (q + 1) 1 (some 21)) (q + 1) 2 (some q) = M6 at s6 z6 ⊢
  have e6 : M6 = riM μ q := by rw [← hM6, ← hM5, ← hM4, ← hM3, ← hM2, ← hM1]
  have k6 : Kp2 μ M6 (q + 1) := e6 ▸ riM_kp hz
  have hbM : Bs M6 := hb.kp2 k6 (by omega) (by omega)
  have htM : Tb M6 S N := ht.keep (k6.2.1 _ _ (by omega)) (k6.2.1 _ _ (by omega))
  have hl : lrn M6 = lrn μ := funext fun k => by
    show decide (¬ mm_I M6 20 k = 0) = _
    rw [k6.2.1 20 k (by omega)]
  refine am_aload_n fx dX2_init_83 rfl ?_
  refine am_aload_n fx dX2_init_84 rfl ?_
  refine am_callV fx dX2_init_85 mkX2_54 (ct_X5_learningOnes hbM htM) (so5 hbM) ⟨by decide, rfl⟩ rfl (Nat.le_of_ble_eq_true rfl) ⟨by decide, by decide⟩ ⟨Nat.le_of_ble_eq_true rfl, Nat.le_of_ble_eq_true rfl⟩ rfl ?_
  rintro _ _ ⟨rfl, rfl⟩
  refine am_putFR fx hnm dX2_init_88 fgX2_60 (by decide) (by decide) rfl rfl rfl (congrArg Prod.fst (nw_so s6 (by omega))) ?_
  have hk7 : mm_I (mm_sR (mm_fI (mm_nw M6 8 (cnt (lrn M6) N)) (mm_Z M6) (fil (lrn M6) (fun _ => 0) N)) (q + 1) 3 (some (mm_Z M6))) 2 4 = nI S := by
    rw [mI_sR, mI_fIn (by omega), mI_nw, if_neg (by omega)]
    exact htM.1
  have hs7 : (mm_S (mm_sR (mm_fI (mm_nw M6 8 (cnt (lrn M6) N)) (mm_Z M6) (fil (lrn M6) (fun _ => 0) N)) (q + 1) 3 (some (mm_Z M6))) 2).1 = 5 := by
    rw [mS_sR, mS_fI, mS_nw, if_neg (by omega)]
    exact so5 hbM
  have s7 : mm_S (mm_sR (mm_fI (mm_nw M6 8 (cnt (lrn M6) N)) (mm_Z M6) (fil (lrn M6) (fun _ => 0) N)) (q + 1) 3 (some (mm_Z M6))) (q + 1) = (2, 0) := nw_so s6 (by omega)
  generalize hM7 : mm_sR (mm_fI (mm_nw M6 8 (cnt (lrn M6) N)) (mm_Z M6) (fil (lrn M6) (fun _ => 0) N)) (q + 1) 3 (some (mm_Z M6)) = M7 at s7 hk7 hs7 ⊢
  refine am_aload_n fx dX2_init_91 rfl ?_
  refine am_aload_n fx dX2_init_92 rfl ?_
  refine am_getI fx dX2_init_93 fkX2_63 (by decide) (by decide) rfl hs7 hk7 ?_
  refine am_putFI fx hnm dX2_init_96 fgX2_66 (by decide) (by decide) rfl rfl rfl (congrArg Prod.fst s7) ?_
  refine am_aload_n fx dX2_init_99 rfl ?_
  refine am_aload_n fx dX2_init_100 rfl ?_
  refine am_getI fx dX2_init_101 fkX2_63 (by decide) (by decide) rfl hs7 ((mI_ne (Or.inl (by omega))).trans hk7) ?_
  refine am_putI fx dX2_init_104 fkX2_69 (by decide) (by decide) rfl rfl (congrArg Prod.fst s7) ?_
  refine am_widen (k := (rmX2_init).cells) (n := (rmX2_init).slots) (by decide) (by decide) ?_
  exact am_vret fx dX2_init_107 ⟨rfl, by have h9 := riM_all (S := S) hb (N := N) ht.n hq h3 h2 hz; rw [← hM7, hl, e6]; rw [← e6, hl, e6] at h9; exact h9⟩
