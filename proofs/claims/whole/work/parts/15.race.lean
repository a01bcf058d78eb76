/-- all cells but those of S hold what they held -/
def Sm (S : Nat → Prop) (μ μ' : am_M) : Prop := Fr μ μ' ∧ (∀ a k, ¬ S a → mm_I μ' a k = mm_I μ a k) ∧ (∀ a k, ¬ S a → mm_L μ' a k = mm_L μ a k)
theorem Sm.rf (S : Nat → Prop) (μ : am_M) : Sm S μ μ := ⟨Fr.rf μ, fun _ _ _ => rfl, fun _ _ _ => rfl⟩
theorem Sm.tr {S : Nat → Prop} {μ μ' μ'' : am_M} (h : Sm S μ μ') (h2 : Sm S μ' μ'') : Sm S μ μ'' := ⟨h.1.tr h2.1, fun a k q => (h2.2.1 a k q).trans (h.2.1 a k q), fun a k q => (h2.2.2 a k q).trans (h.2.2 a k q)⟩
theorem Sm.mono {S S' : Nat → Prop} {μ μ' : am_M} (h : Sm S μ μ') (hs : ∀ a, S a → S' a) : Sm S' μ μ' := ⟨h.1, fun a k q => h.2.1 a k (fun z => q (hs a z)), fun a k q => h.2.2 a k (fun z => q (hs a z))⟩
theorem Sm.sI {S : Nat → Prop} (μ : am_M) {a k : Nat} {v : Int32} (h : S a) : Sm S μ (mm_sI μ a k v) := ⟨Fr.sI _ _ _ _, fun a' k' q => mI_ne (Or.inl (fun e => q (e ▸ h))), fun _ _ _ => rfl⟩
theorem Sm.sL {S : Nat → Prop} (μ : am_M) {a k : Nat} {v : Int64} (h : S a) : Sm S μ (mm_sL μ a k v) := ⟨Fr.sL _ _ _ _, fun _ _ _ => rfl, fun a' k' q => mL_ne (Or.inl (fun e => q (e ▸ h)))⟩
theorem Sm.fI {S : Nat → Prop} (μ : am_M) {a : Nat} {g : Nat → Int32} (h : S a) : Sm S μ (mm_fI μ a g) := ⟨Fr.fI _ _ _, fun a' k' q => mI_fIn (fun e => q (e ▸ h)), fun _ _ _ => rfl⟩
theorem Sm.mo {S : Nat → Prop} (μ : am_M) {g : Nat → Int64} {lo up : Int64} (h : S 21) (h2 : S 24) : Sm S μ (mo μ g lo up) := ⟨Fr.mo _ _ _ _, fun _ _ _ => rfl, fun a k q => by
  rw [mL_mo, if_neg (show ¬ a = 24 from fun e => q (e ▸ h2)), if_neg (show ¬ (a = 21 ∧ k = 5) from fun e => q (e.1 ▸ h)), if_neg (show ¬ (a = 21 ∧ k = 4) from fun e => q (e.1 ▸ h))]⟩
/-- the race at q: En settings entered, Rd rounds done -/
def Ra (μ : am_M) (q En Rd : Nat) : Prop := mm_I μ (q + 1) 4 = nI En ∧ mm_I μ (q + 1) 12 = nI Rd ∧ En ≤ 12 ∧ Rd ≤ 24
theorem Ra.e {μ : am_M} {q En Rd : Nat} (h : Ra μ q En Rd) : En ≤ 12 := h.2.2.1
theorem Ra.r {μ : am_M} {q En Rd : Nat} (h : Ra μ q En Rd) : Rd ≤ 24 := h.2.2.2
def woF (rem least rd L budget runs : Int32) : Int32 := if rem ≤ 1 ∨ rem ≤ least then 1 else if L ≤ rd then 2 else if budget - runs < rem then 3 else 0
set_option maxRecDepth 100000 in
set_option maxHeartbeats 4000000 in
theorem ct_X2_whyOver {E : am_E} {μ : am_M} (hb : Bs μ) {q L : Nat} (hr : Rc μ q L) : am_Ct E yX2_whyOver cX2_whyOver 1 (some .int) rmX2_whyOver [.ref (q + 1)] μ (fun v μ' => v = some (.int (woF (mm_I μ (q + 1) 10) (mm_I μ q 4) (mm_I μ (q + 1) 12) (nI L) (mm_I μ q 5) (mm_I μ (q + 1) 13))) ∧ μ = μ') := by
  refine am_Ct.of (ls := [some (.ref (q + 1))]) (by decide) (Nat.le_of_ble_eq_true rfl) rfl (fun C fx hnm => ?_)
  refine am_aload_n fx dX2_whyOver_0 rfl ?_
  refine am_getI fx dX2_whyOver_1 fkX2_69 (by decide) (by decide) rfl (so2 hr) rfl ?_
  refine am_iconst (v := 1) fx dX2_whyOver_4 (by decide) ?_
  refine am_icmp_le fx 22 dX2_whyOver_5 (by decide) (fun c5 => ?_) (fun c5 => ?_)
  · skip
    refine am_iconst (v := 1) fx dX2_whyOver_22 (by decide) ?_
    exact am_iret fx dX2_whyOver_23 ⟨by rw [woF, if_pos (Or.inl c5)], rfl⟩
  · skip
    refine am_aload_n fx dX2_whyOver_8 rfl ?_
    refine am_getI fx dX2_whyOver_9 fkX2_69 (by decide) (by decide) rfl (so2 hr) rfl ?_
    refine am_aload_n fx dX2_whyOver_12 rfl ?_
    refine am_getR fx dX2_whyOver_13 fkX2_50 (by decide) (by decide) rfl (so2 hr) (rf2_2 hr) ?_
    refine am_getI fx dX2_whyOver_16 fkX2_77 (by decide) (by decide) rfl (so3 hr) rfl ?_
    refine am_icmp_gt fx 24 dX2_whyOver_19 (by decide) (fun c19 => ?_) (fun c19 => ?_)
    · skip
      refine am_aload_n fx dX2_whyOver_24 rfl ?_
      refine am_getI fx dX2_whyOver_25 fkX2_33 (by decide) (by decide) rfl (so2 hr) rfl ?_
      refine am_aload_n fx dX2_whyOver_28 rfl ?_
      refine am_getR fx dX2_whyOver_29 fkX2_60 (by decide) (by decide) rfl (so2 hr) (rf2_3 hr) ?_
      refine am_alen fx dX2_whyOver_32 (sa2_3 hr) (by decide) rfl ?_
      refine am_icmp_lt fx 38 dX2_whyOver_33 (by decide) (fun c33 => ?_) (fun c33 => ?_)
      · skip
        refine am_aload_n fx dX2_whyOver_38 rfl ?_
        refine am_getR fx dX2_whyOver_39 fkX2_50 (by decide) (by decide) rfl (so2 hr) (rf2_2 hr) ?_
        refine am_getI fx dX2_whyOver_42 fkX2_82 (by decide) (by decide) rfl (so3 hr) rfl ?_
        refine am_aload_n fx dX2_whyOver_45 rfl ?_
        refine am_getI fx dX2_whyOver_46 fkX2_36 (by decide) (by decide) rfl (so2 hr) rfl ?_
        refine am_isub fx dX2_whyOver_49 ?_
        refine am_aload_n fx dX2_whyOver_50 rfl ?_
        refine am_getI fx dX2_whyOver_51 fkX2_69 (by decide) (by decide) rfl (so2 hr) rfl ?_
        refine am_icmp_ge fx 61 dX2_whyOver_54 (by decide) (fun c54 => ?_) (fun c54 => ?_)
        · skip
          refine am_iconst (v := 0) fx dX2_whyOver_61 (by decide) ?_
          exact am_iret fx dX2_whyOver_62 ⟨by rw [woF, if_neg (by rintro (h | h); exact c5 h; exact absurd c19 (Int32.not_lt.mpr h)), if_neg (Int32.not_le.mpr c33), if_neg (Int32.not_lt.mpr c54)], rfl⟩
        · skip
          refine am_iconst (v := 3) fx dX2_whyOver_57 (by decide) ?_
          refine am_goto fx 62 dX2_whyOver_58 (by decide) ?_
          exact am_iret fx dX2_whyOver_62 ⟨by rw [woF, if_neg (by rintro (h | h); exact c5 h; exact absurd c19 (Int32.not_lt.mpr h)), if_neg (Int32.not_le.mpr c33), if_pos (Int32.not_le.mp c54)], rfl⟩
      · skip
        refine am_iconst (v := 2) fx dX2_whyOver_36 (by decide) ?_
        exact am_iret fx dX2_whyOver_37 ⟨by rw [woF, if_neg (by rintro (h | h); exact c5 h; exact absurd c19 (Int32.not_lt.mpr h)), if_pos (Int32.not_lt.mp c33)], rfl⟩
    · skip
      refine am_iconst (v := 1) fx dX2_whyOver_22 (by decide) ?_
      exact am_iret fx dX2_whyOver_23 ⟨by rw [woF, if_pos (Or.inr (Int32.not_lt.mp c19))], rfl⟩
set_option maxRecDepth 100000 in
set_option maxHeartbeats 4000000 in
theorem ct_X2_isEntered {E : am_E} {μ : am_M} (hb : Bs μ) {q L : Nat} (hr : Rc μ q L) {En Rd : Nat} (ha : Ra μ q En Rd) (x : Int32) : am_Ct E yX2_isEntered cX2_isEntered 2 (some .boolean) rmX2_isEntered [.ref (q + 1), .int x] μ (fun v μ' => v = some (.int (bz (0 ≤ x ∧ x < nI En))) ∧ μ = μ') := by
  refine am_Ct.of (ls := [some (.ref (q + 1)), some (.int x)]) (by decide) (Nat.le_of_ble_eq_true rfl) rfl (fun C fx hnm => ?_)
  refine am_iload_n fx dX2_isEntered_0 rfl ?_
  refine am_if_lt fx 16 dX2_isEntered_1 (by decide) (fun c1 => ?_) (fun c1 => ?_)
  · try simp (disch := omega) only [bz_0, Classical.not_not, Int32.not_le, Int32.not_lt, Nat.not_le, Nat.not_lt, nI_leI, nI_ltI, nI_eq, nI_le0, nI_lt0] at c1
    refine am_iconst (v := 0) fx dX2_isEntered_16 (by decide) ?_
    exact am_zret fx dX2_isEntered_17 (by first | exact Or.inl rfl | exact Or.inr rfl | exact bz_01) ⟨congrArg (fun z => some (Value.int z)) (by first | exact bz_t ⟨c1, c9⟩ | exact bz_f (fun h => absurd h.1 (Int32.not_le.mpr c1)) | exact bz_f (fun h => absurd h.2 (Int32.not_lt.mpr c9))), rfl⟩
  · try simp (disch := omega) only [bz_0, Classical.not_not, Int32.not_le, Int32.not_lt, Nat.not_le, Nat.not_lt, nI_leI, nI_ltI, nI_eq, nI_le0, nI_lt0] at c1
    refine am_iload_n fx dX2_isEntered_4 rfl ?_
    refine am_aload_n fx dX2_isEntered_5 rfl ?_
    refine am_getI fx dX2_isEntered_6 fkX2_66 (by decide) (by decide) rfl (so2 hr) ha.1 ?_
    refine am_icmp_ge fx 16 dX2_isEntered_9 (by decide) (fun c9 => ?_) (fun c9 => ?_)
    · try simp (disch := omega) only [bz_0, Classical.not_not, Int32.not_le, Int32.not_lt, Nat.not_le, Nat.not_lt, nI_leI, nI_ltI, nI_eq, nI_le0, nI_lt0] at c9
      refine am_iconst (v := 0) fx dX2_isEntered_16 (by decide) ?_
      exact am_zret fx dX2_isEntered_17 (by first | exact Or.inl rfl | exact Or.inr rfl | exact bz_01) ⟨congrArg (fun z => some (Value.int z)) (by first | exact bz_t ⟨c1, c9⟩ | exact bz_f (fun h => absurd h.1 (Int32.not_le.mpr c1)) | exact bz_f (fun h => absurd h.2 (Int32.not_lt.mpr c9))), rfl⟩
    · try simp (disch := omega) only [bz_0, Classical.not_not, Int32.not_le, Int32.not_lt, Nat.not_le, Nat.not_lt, nI_leI, nI_ltI, nI_eq, nI_le0, nI_lt0] at c9
      refine am_iconst (v := 1) fx dX2_isEntered_12 (by decide) ?_
      refine am_goto fx 17 dX2_isEntered_13 (by decide) ?_
      exact am_zret fx dX2_isEntered_17 (by first | exact Or.inl rfl | exact Or.inr rfl | exact bz_01) ⟨congrArg (fun z => some (Value.int z)) (by first | exact bz_t ⟨c1, c9⟩ | exact bz_f (fun h => absurd h.1 (Int32.not_le.mpr c1)) | exact bz_f (fun h => absurd h.2 (Int32.not_lt.mpr c9))), rfl⟩
set_option maxRecDepth 100000 in
set_option maxHeartbeats 4000000 in
theorem ct_X2_isLeft {E : am_E} {μ : am_M} (hb : Bs μ) {q L : Nat} (hr : Rc μ q L) {En Rd : Nat} (ha : Ra μ q En Rd) (x : Int32) : am_Ct E yX2_isLeft cX2_isLeft 2 (some .boolean) rmX2_isLeft [.ref (q + 1), .int x] μ (fun v μ' => v = some (.int (bz ((0 ≤ x ∧ x < nI En) ∧ mm_I μ (q + 15) x.toNatClampNeg = 0))) ∧ μ = μ') := by
  refine am_Ct.of (ls := [some (.ref (q + 1)), some (.int x)]) (by decide) (Nat.le_of_ble_eq_true rfl) rfl (fun C fx hnm => ?_)
  have hE := ha.e
  have hR := ha.r
  have hL := hr.l
  have hq := hr.qq
  refine am_iload_n fx dX2_isLeft_0 rfl ?_
  refine am_if_lt fx 25 dX2_isLeft_1 (by decide) (fun c1 => ?_) (fun c1 => ?_)
  · try simp (disch := omega) only [bz_0, Classical.not_not, Int32.not_le, Int32.not_lt, Nat.not_le, Nat.not_lt, nI_leI, nI_ltI, nI_eq, nI_le0, nI_lt0] at c1
    refine am_iconst (v := 0) fx dX2_isLeft_25 (by decide) ?_
    exact am_zret fx dX2_isLeft_26 (by first | exact Or.inl rfl | exact Or.inr rfl | exact bz_01) ⟨congrArg (fun z => some (Value.int z)) (bz_f (fun h => absurd h.1.1 (Int32.not_le.mpr c1))), rfl⟩
  · try simp (disch := omega) only [bz_0, Classical.not_not, Int32.not_le, Int32.not_lt, Nat.not_le, Nat.not_lt, nI_leI, nI_ltI, nI_eq, nI_le0, nI_lt0] at c1
    refine am_iload_n fx dX2_isLeft_4 rfl ?_
    refine am_aload_n fx dX2_isLeft_5 rfl ?_
    refine am_getI fx dX2_isLeft_6 fkX2_66 (by decide) (by decide) rfl (so2 hr) ha.1 ?_
    refine am_icmp_ge fx 25 dX2_isLeft_9 (by decide) (fun c9 => ?_) (fun c9 => ?_)
    · try simp (disch := omega) only [bz_0, Classical.not_not, Int32.not_le, Int32.not_lt, Nat.not_le, Nat.not_lt, nI_leI, nI_ltI, nI_eq, nI_le0, nI_lt0] at c9
      refine am_iconst (v := 0) fx dX2_isLeft_25 (by decide) ?_
      exact am_zret fx dX2_isLeft_26 (by first | exact Or.inl rfl | exact Or.inr rfl | exact bz_01) ⟨congrArg (fun z => some (Value.int z)) (bz_f (fun h => absurd h.1.2 (Int32.not_lt.mpr c9))), rfl⟩
    · try simp (disch := omega) only [bz_0, Classical.not_not, Int32.not_le, Int32.not_lt, Nat.not_le, Nat.not_lt, nI_leI, nI_ltI, nI_eq, nI_le0, nI_lt0] at c9
      obtain ⟨x, hx, rfl⟩ := nI_rg2 (n := En) ⟨c1, c9⟩ (by omega)
      refine am_aload_n fx dX2_isLeft_12 rfl ?_
      refine am_getR fx dX2_isLeft_13 fkX2_16 (by decide) (by decide) rfl (so2 hr) (rf2_6 hr) ?_
      refine am_iload_n fx dX2_isLeft_16 rfl ?_
      refine am_iald  fx dX2_isLeft_17 (sa2_6 hr) rfl (by omega) (by decide) rfl ?_
      refine am_if_ne fx 25 dX2_isLeft_18 (by decide) (fun c18 => ?_) (fun c18 => ?_)
      · try simp (disch := omega) only [bz_0, Classical.not_not, Int32.not_le, Int32.not_lt, Nat.not_le, Nat.not_lt, nI_leI, nI_ltI, nI_eq, nI_le0, nI_lt0] at c18
        refine am_iconst (v := 0) fx dX2_isLeft_25 (by decide) ?_
        exact am_zret fx dX2_isLeft_26 (by first | exact Or.inl rfl | exact Or.inr rfl | exact bz_01) ⟨congrArg (fun z => some (Value.int z)) (bz_f (fun h => c18 (by rw [← h.2, nI_clamp (by omega)]))), rfl⟩
      · try simp (disch := omega) only [bz_0, Classical.not_not, Int32.not_le, Int32.not_lt, Nat.not_le, Nat.not_lt, nI_leI, nI_ltI, nI_eq, nI_le0, nI_lt0] at c18
        refine am_iconst (v := 1) fx dX2_isLeft_21 (by decide) ?_
        refine am_goto fx 26 dX2_isLeft_22 (by decide) ?_
        exact am_zret fx dX2_isLeft_26 (by first | exact Or.inl rfl | exact Or.inr rfl | exact bz_01) ⟨congrArg (fun z => some (Value.int z)) (bz_t ⟨⟨c1, c9⟩, by rw [nI_clamp (by omega)]; exact c18⟩), rfl⟩
theorem isl_n {P Q : Prop} [Decidable P] [Decidable Q] (h : P ↔ Q) : bz P = bz Q := by
  by_cases q : P
  · rw [bz_1.mpr q, bz_1.mpr (h.mp q)]
  · rw [bz_0.mpr q, bz_0.mpr (fun z => q (h.mpr z))]
theorem am_Ct.post {E : am_E} {y : MethodName} {cc : ByteArray} {nL : Nat} {ret : Option FieldType} {rm : Room} {as : List Value} {μ : am_M} {post post' : Option Value → am_M → Prop} (h : am_Ct E y cc nL ret rm as μ post) (hp : ∀ v μ', post v μ' → post' v μ') : am_Ct E y cc nL ret rm as μ post' := by
  intro p e ha hc hk s m args below hf hfit hP hT
  obtain ⟨t, o, h1, h2, h3, ⟨⟨v, μ', e1, e2, e3⟩, hF⟩, hL⟩ := h p e ha hc hk s m args below hf hfit hP hT
  exact ⟨t, o, h1, h2, h3, ⟨⟨v, μ', e1, hp v μ' e2, e3⟩, hF⟩, hL⟩
theorem ct_X2_isLeftN {E : am_E} {μ : am_M} (hb : Bs μ) {q L : Nat} (hr : Rc μ q L) {En Rd : Nat} (ha : Ra μ q En Rd) (s : Nat) (hs : s < En) : am_Ct E yX2_isLeft cX2_isLeft 2 (some .boolean) rmX2_isLeft [.ref (q + 1), .int (nI s)] μ (fun v μ' => v = some (.int (bz (mm_I μ (q + 15) s = 0))) ∧ μ = μ') := by
  have hE := ha.e
  refine (ct_X2_isLeft hb hr ha (nI s)).post (fun v μ' h => ⟨?_, h.2⟩)
  rw [h.1]
  refine congrArg (fun z => some (Value.int z)) (isl_n ?_)
  rw [nI_clamp (by omega)]
  exact ⟨fun z => z.2, fun z => ⟨⟨nI_pos' (by omega), nI_lt hs (by omega)⟩, z⟩⟩
set_option maxRecDepth 100000 in
set_option maxHeartbeats 4000000 in
theorem ct_X2_instanceAt {E : am_E} {μ : am_M} (hb : Bs μ) {q L : Nat} (hr : Rc μ q L) (x : Int32) : am_Ct E yX2_instanceAt cX2_instanceAt 2 (some .int) rmX2_instanceAt [.ref (q + 1), .int x] μ (fun v μ' => v = some (.int (if 0 ≤ x ∧ x < nI L then mm_I μ (q + 19) x.toNatClampNeg else -1)) ∧ μ = μ') := by
  refine am_Ct.of (ls := [some (.ref (q + 1)), some (.int x)]) (by decide) (Nat.le_of_ble_eq_true rfl) rfl (fun C fx hnm => ?_)
  have hL := hr.l
  refine am_iload_n fx dX2_instanceAt_0 rfl ?_
  refine am_if_lt fx 22 dX2_instanceAt_1 (by decide) (fun c1 => ?_) (fun c1 => ?_)
  · try simp (disch := omega) only [bz_0, Classical.not_not, Int32.not_le, Int32.not_lt, Nat.not_le, Nat.not_lt, nI_leI, nI_ltI, nI_eq, nI_le0, nI_lt0] at c1
    refine am_iconst (v := (-1)) fx dX2_instanceAt_22 (by decide) ?_
    exact am_iret fx dX2_instanceAt_23 ⟨by rw [if_neg (fun h => absurd h.1 (Int32.not_le.mpr c1))], rfl⟩
  · try simp (disch := omega) only [bz_0, Classical.not_not, Int32.not_le, Int32.not_lt, Nat.not_le, Nat.not_lt, nI_leI, nI_ltI, nI_eq, nI_le0, nI_lt0] at c1
    refine am_iload_n fx dX2_instanceAt_4 rfl ?_
    refine am_aload_n fx dX2_instanceAt_5 rfl ?_
    refine am_getR fx dX2_instanceAt_6 fkX2_60 (by decide) (by decide) rfl (so2 hr) (rf2_3 hr) ?_
    refine am_alen fx dX2_instanceAt_9 (sa2_3 hr) (by decide) rfl ?_
    refine am_icmp_ge fx 22 dX2_instanceAt_10 (by decide) (fun c10 => ?_) (fun c10 => ?_)
    · try simp (disch := omega) only [bz_0, Classical.not_not, Int32.not_le, Int32.not_lt, Nat.not_le, Nat.not_lt, nI_leI, nI_ltI, nI_eq, nI_le0, nI_lt0] at c10
      refine am_iconst (v := (-1)) fx dX2_instanceAt_22 (by decide) ?_
      exact am_iret fx dX2_instanceAt_23 ⟨by rw [if_neg (fun h => absurd h.2 (Int32.not_lt.mpr c10))], rfl⟩
    · try simp (disch := omega) only [bz_0, Classical.not_not, Int32.not_le, Int32.not_lt, Nat.not_le, Nat.not_lt, nI_leI, nI_ltI, nI_eq, nI_le0, nI_lt0] at c10
      obtain ⟨x, hx, rfl⟩ := nI_rg2 (n := L) ⟨c1, c10⟩ (by omega)
      refine am_aload_n fx dX2_instanceAt_13 rfl ?_
      refine am_getR fx dX2_instanceAt_14 fkX2_60 (by decide) (by decide) rfl (so2 hr) (rf2_3 hr) ?_
      refine am_iload_n fx dX2_instanceAt_17 rfl ?_
      refine am_iald  fx dX2_instanceAt_18 (sa2_3 hr) rfl (by omega) (by omega) rfl ?_
      refine am_goto fx 23 dX2_instanceAt_19 (by decide) ?_
      exact am_iret fx dX2_instanceAt_23 ⟨by rw [if_pos ⟨c1, c10⟩, nI_clamp (by omega)], rfl⟩
/-- the k-th that is so, among the first n -/
def kth (b : Nat → Bool) (n k : Nat) : Option Nat := (List.range n).find? (fun s => b s && decide (cnt b s = k))
/-- the first that is so, from i on, before n -/
def frst (b : Nat → Bool) (n i : Nat) : Option Nat := (List.range n).find? (fun s => decide (i ≤ s) && b s)
theorem find_up {p : Nat → Bool} {n r : Nat} (hr : r < n) (hp : p r = true) (hn : ∀ j, j < r → p j = false) : (List.range n).find? p = some r := by
  induction n with
  | zero => omega
  | succ n ih =>
    rw [List.range_succ, List.find?_append]
    rcases Nat.lt_or_ge r n with q | q
    · rw [ih q]; rfl
    · rw [show (List.range n).find? p = none from List.find?_eq_none.mpr (fun j hj => by rw [hn j (by have := List.mem_range.mp hj; omega)]; decide), show r = n by omega]
      rw [show r = n by omega] at hp
      simp [hp]
theorem find_no {p : Nat → Bool} {n : Nat} (hn : ∀ j, j < n → p j = false) : (List.range n).find? p = none := List.find?_eq_none.mpr (fun j hj => by rw [hn j (List.mem_range.mp hj)]; decide)
set_option maxRecDepth 100000 in
set_option maxHeartbeats 4000000 in
theorem ct_X2_leftFrom {E : am_E} {μ : am_M} (hb : Bs μ) {q L : Nat} (hr : Rc μ q L) {En Rd : Nat} (ha : Ra μ q En Rd) (i : Nat) (hi : i ≤ 12) : am_Ct E yX2_leftFrom cX2_leftFrom 3 (some .int) rmX2_leftFrom [.ref (q + 1), .int (nI i)] μ (fun v μ' => v = some (.int (enO (-1) (frst (fun s => decide (mm_I μ (q + 15) s = 0)) En i))) ∧ μ = μ') := by
  refine am_Ct.of (ls := [some (.ref (q + 1)), some (.int (nI i)), none]) (by decide) (Nat.le_of_ble_eq_true rfl) rfl (fun C fx hnm => ?_)
  have hE := ha.e
  have hR := ha.r
  have hL := hr.l
  have hq := hr.qq
  refine am_iload_n fx dX2_leftFrom_0 rfl ?_
  refine am_istore_n fx dX2_leftFrom_1 (by decide) rfl ?_
  have lp2 : ∀ (mz : Nat) (r : Nat), En - r = mz → i ≤ r → r ≤ 12 → (∀ j, i ≤ j → j < r → ¬ mm_I μ (q + 15) j = 0) → am_W E C (am_MQ E C (fun v μ' => v = some (.int (enO (-1) (frst (fun s => decide (mm_I μ (q + 15) s = 0)) En i))) ∧ μ = μ') (rmX2_leftFrom).cells (rmX2_leftFrom).slots) μ 0 0 2 [some (.ref (q + 1)), some (.int (nI i)), some (.int (nI r))] [] := by
    intro mz
    induction mz using Nat.strongRecOn with
    | ind mz ih =>
      intro r hn hir hr1 hno
      refine am_iload_n fx dX2_leftFrom_2 rfl ?_
      refine am_aload_n fx dX2_leftFrom_3 rfl ?_
      refine am_getI fx dX2_leftFrom_4 fkX2_66 (by decide) (by decide) rfl (so2 hr) ha.1 ?_
      refine am_icmp_ge fx 26 dX2_leftFrom_7 (by decide) (fun c7 => ?_) (fun c7 => ?_)
      · try simp (disch := omega) only [bz_0, Classical.not_not, Int32.not_le, Int32.not_lt, Nat.not_le, Nat.not_lt, nI_leI, nI_ltI, nI_eq, nI_le0, nI_lt0] at c7
        refine am_iconst (v := (-1)) fx dX2_leftFrom_26 (by decide) ?_
        exact am_iret fx dX2_leftFrom_27 ⟨by rw [frst, find_no (fun j hj => by rcases Nat.lt_or_ge j i with z | z; simp; omega; simp [hno j z (by omega)])]; rfl, rfl⟩
      · try simp (disch := omega) only [bz_0, Classical.not_not, Int32.not_le, Int32.not_lt, Nat.not_le, Nat.not_lt, nI_leI, nI_ltI, nI_eq, nI_le0, nI_lt0] at c7
        refine am_aload_n fx dX2_leftFrom_10 rfl ?_
        refine am_iload_n fx dX2_leftFrom_11 rfl ?_
        refine am_callV fx dX2_leftFrom_12 mkX2_85 (ct_X2_isLeftN hb hr ha _ (by assumption)) (so2 hr) ⟨by decide, rfl⟩ rfl (Nat.le_of_ble_eq_true rfl) ⟨by decide, by decide⟩ ⟨Nat.le_of_ble_eq_true rfl, Nat.le_of_ble_eq_true rfl⟩ rfl ?_
        rintro _ _ ⟨rfl, rfl⟩
        refine am_if_eq fx 20 dX2_leftFrom_15 (by decide) (fun c15 => ?_) (fun c15 => ?_)
        · try simp (disch := omega) only [bz_0, Classical.not_not, Int32.not_le, Int32.not_lt, Nat.not_le, Nat.not_lt, nI_leI, nI_ltI, nI_eq, nI_le0, nI_lt0] at c15
          first | refine am_iinc fx dX2_leftFrom_20 rfl (nI_inc _) (by decide) rfl ?_ | refine am_iinc fx dX2_leftFrom_20 rfl rfl (by decide) rfl ?_
          refine am_goto fx 2 dX2_leftFrom_23 (by decide) ?_
          exact ih (En - (r + 1)) (by omega) (r + 1) rfl (by omega) (by omega) (fun j h1 h2 => by rcases Nat.lt_or_ge j r with z | z; exact hno j h1 z; rw [show j = r by omega]; exact c15)
        · try simp (disch := omega) only [bz_0, Classical.not_not, Int32.not_le, Int32.not_lt, Nat.not_le, Nat.not_lt, nI_leI, nI_ltI, nI_eq, nI_le0, nI_lt0] at c15
          refine am_iload_n fx dX2_leftFrom_18 rfl ?_
          exact am_iret fx dX2_leftFrom_19 ⟨by rw [frst, find_up c7 (by simp [c15, hir]) (fun j hj => by rcases Nat.lt_or_ge j i with z | z; simp; omega; simp [hno j z hj])]; rfl, rfl⟩
  exact lp2 _ i rfl (by omega) (by omega) (fun j h1 h2 => by omega)
theorem rem_in {b : Nat → Bool} {n r : Nat} {k : Int32} (hr : r < n) (hb : b r = true) (hk : nI (cnt b r) = k) (hl : n ≤ 12) (hno : ∀ j, j < r → b j = true → ¬ nI (cnt b j) = k) : some (Value.int (nI r)) = some (Value.int (if 0 ≤ k then enO (-1) (kth b n k.toNatClampNeg) else -1)) := by
  have hc := cnt_le b r
  subst hk
  rw [if_pos (nI_pos' (by omega)), nI_clamp (by omega), kth, find_up hr (by simp [hb])]
  · rfl
  · intro j hj
    by_cases h : b j = true
    · have h1 := hno j hj h
      have h2 := cnt_le b j
      rw [nI_eq (by omega) (by omega)] at h1
      simp [h, h1]
    · simp [h]
theorem rem_no {b : Nat → Bool} {n : Nat} {k : Int32} (hl : n ≤ 12) (hno : ∀ j, j < n → b j = true → ¬ nI (cnt b j) = k) : some (Value.int (-1)) = some (Value.int (if 0 ≤ k then enO (-1) (kth b n k.toNatClampNeg) else -1)) := by
  by_cases hk : 0 ≤ k
  · obtain ⟨k, hk2, rfl⟩ := nI_of (Int32.not_lt.mpr hk)
    rw [if_pos hk, nI_clamp hk2, kth, find_no]
    · rfl
    · intro j hj
      by_cases h : b j = true
      · have h1 := hno j hj h
        have h2 := cnt_le b j
        rw [nI_eq (by omega) hk2] at h1
        simp [h, h1]
      · simp [h]
  · rw [if_neg hk]
set_option maxRecDepth 100000 in
set_option maxHeartbeats 4000000 in
theorem ct_X2_remainingAt {E : am_E} {μ : am_M} (hb : Bs μ) {q L : Nat} (hr : Rc μ q L) {En Rd : Nat} (ha : Ra μ q En Rd) (k : Int32) : am_Ct E yX2_remainingAt cX2_remainingAt 4 (some .int) rmX2_remainingAt [.ref (q + 1), .int k] μ (fun v μ' => v = some (.int (if 0 ≤ k then enO (-1) (kth (fun s => decide (mm_I μ (q + 15) s = 0)) En k.toNatClampNeg) else -1)) ∧ μ = μ') := by
  refine am_Ct.of (ls := [some (.ref (q + 1)), some (.int k), none, none]) (by decide) (Nat.le_of_ble_eq_true rfl) rfl (fun C fx hnm => ?_)
  have hE := ha.e
  have hR := ha.r
  have hL := hr.l
  have hq := hr.qq
  refine am_iconst (v := 0) fx dX2_remainingAt_0 (by decide) ?_
  refine am_istore_n fx dX2_remainingAt_1 (by decide) rfl ?_
  refine am_iconst (v := 0) fx dX2_remainingAt_2 (by decide) ?_
  refine am_istore_n fx dX2_remainingAt_3 (by decide) rfl ?_
  have lp4 : ∀ (mz : Nat) (r : Nat) (x : Int32), En - r = mz → r ≤ En → x = nI (cnt (fun s => decide (mm_I μ (q + 15) s = 0)) r) → (∀ j, j < r → mm_I μ (q + 15) j = 0 → ¬ nI (cnt (fun s => decide (mm_I μ (q + 15) s = 0)) j) = k) → am_W E C (am_MQ E C (fun v μ' => v = some (.int (if 0 ≤ k then enO (-1) (kth (fun s => decide (mm_I μ (q + 15) s = 0)) En k.toNatClampNeg) else -1)) ∧ μ = μ') (rmX2_remainingAt).cells (rmX2_remainingAt).slots) μ 0 0 4 [some (.ref (q + 1)), some (.int k), some (.int x), some (.int (nI r))] [] := by
    intro mz
    induction mz using Nat.strongRecOn with
    | ind mz ih =>
      intro r x hn hr1 hx hno
      have hc := cnt_le (fun s => decide (mm_I μ (q + 15) s = 0)) r
      refine am_iload_n fx dX2_remainingAt_4 rfl ?_
      refine am_aload_n fx dX2_remainingAt_5 rfl ?_
      refine am_getI fx dX2_remainingAt_6 fkX2_66 (by decide) (by decide) rfl (so2 hr) ha.1 ?_
      refine am_icmp_ge fx 36 dX2_remainingAt_9 (by decide) (fun c9 => ?_) (fun c9 => ?_)
      · try simp (disch := omega) only [bz_0, Classical.not_not, Int32.not_le, Int32.not_lt, Nat.not_le, Nat.not_lt, nI_leI, nI_ltI, nI_eq, nI_le0, nI_lt0] at c9
        refine am_iconst (v := (-1)) fx dX2_remainingAt_36 (by decide) ?_
        exact am_iret fx dX2_remainingAt_37 ⟨rem_no (by omega) (fun j hj h2 => hno j (by omega) (by simpa using h2)), rfl⟩
      · try simp (disch := omega) only [bz_0, Classical.not_not, Int32.not_le, Int32.not_lt, Nat.not_le, Nat.not_lt, nI_leI, nI_ltI, nI_eq, nI_le0, nI_lt0] at c9
        refine am_aload_n fx dX2_remainingAt_12 rfl ?_
        refine am_iload_n fx dX2_remainingAt_13 rfl ?_
        refine am_callV fx dX2_remainingAt_14 mkX2_85 (ct_X2_isLeftN hb hr ha _ (by assumption)) (so2 hr) ⟨by decide, rfl⟩ rfl (Nat.le_of_ble_eq_true rfl) ⟨by decide, by decide⟩ ⟨Nat.le_of_ble_eq_true rfl, Nat.le_of_ble_eq_true rfl⟩ rfl ?_
        rintro _ _ ⟨rfl, rfl⟩
        refine am_if_eq fx 30 dX2_remainingAt_17 (by decide) (fun c17 => ?_) (fun c17 => ?_)
        · try simp (disch := omega) only [bz_0, Classical.not_not, Int32.not_le, Int32.not_lt, Nat.not_le, Nat.not_lt, nI_leI, nI_ltI, nI_eq, nI_le0, nI_lt0] at c17
          first | refine am_iinc fx dX2_remainingAt_30 rfl (nI_inc _) (by decide) rfl ?_ | refine am_iinc fx dX2_remainingAt_30 rfl rfl (by decide) rfl ?_
          refine am_goto fx 4 dX2_remainingAt_33 (by decide) ?_
          exact ih (En - (r + 1)) (by omega) (r + 1) _ rfl (by omega) (by rw [hx, cnt, if_neg (by simpa using c17)]; rfl) (fun j h1 h2 => by rcases Nat.lt_or_ge j r with z | z; exact hno j z h2; rw [show j = r by omega] at h2 ⊢; exact absurd h2 c17)
        · try simp (disch := omega) only [bz_0, Classical.not_not, Int32.not_le, Int32.not_lt, Nat.not_le, Nat.not_lt, nI_leI, nI_ltI, nI_eq, nI_le0, nI_lt0] at c17
          refine am_iload_n fx dX2_remainingAt_20 rfl ?_
          refine am_iload_n fx dX2_remainingAt_21 rfl ?_
          refine am_icmp_ne fx 27 dX2_remainingAt_22 (by decide) (fun c22 => ?_) (fun c22 => ?_)
          · skip
            first | refine am_iinc fx dX2_remainingAt_27 rfl (nI_inc _) (by decide) rfl ?_ | refine am_iinc fx dX2_remainingAt_27 rfl rfl (by decide) rfl ?_
            first | refine am_iinc fx dX2_remainingAt_30 rfl (nI_inc _) (by decide) rfl ?_ | refine am_iinc fx dX2_remainingAt_30 rfl rfl (by decide) rfl ?_
            refine am_goto fx 4 dX2_remainingAt_33 (by decide) ?_
            exact ih (En - (r + 1)) (by omega) (r + 1) _ rfl (by omega) (by rw [hx, cnt, if_pos (by simpa using c17)]; exact nI_inc _) (fun j h1 h2 => by rcases Nat.lt_or_ge j r with z | z; exact hno j z h2; rw [show j = r by omega] at h2 ⊢; rw [← hx]; exact c22)
          · skip
            refine am_iload_n fx dX2_remainingAt_25 rfl ?_
            exact am_iret fx dX2_remainingAt_26 ⟨rem_in c9 (by simpa using c17) (hx ▸ c22) (by omega) (fun j hj h2 => hno j hj (by simpa using h2)), rfl⟩
  exact lp4 _ 0 _ rfl (by omega) rfl (fun j h => by omega)
