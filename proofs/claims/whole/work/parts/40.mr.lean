/-! the model: its race -/
def Mo (μ : am_M) (En Rd pl : Nat) (od : Nat → Nat) (ou : Nat → Int32) : Prop := mm_I μ 46 12 = nI En ∧ mm_I μ 46 15 = nI Rd ∧ mm_I μ 46 13 = nI pl ∧ En ≤ 12 ∧ Rd ≤ pl ∧ pl ≤ 24 ∧ (∀ i, i < pl → mm_I μ 50 i = nI (od i) ∧ od i < 24) ∧ (∀ s, s < 12 → mm_I μ 51 s = ou s)
section MOX
variable {μ : am_M} {En Rd pl : Nat} {od : Nat → Nat} {ou : Nat → Int32}
theorem Mo.e (h : Mo μ En Rd pl od ou) : En ≤ 12 := h.2.2.2.1
theorem Mo.r (h : Mo μ En Rd pl od ou) : Rd ≤ pl := h.2.2.2.2.1
theorem Mo.p (h : Mo μ En Rd pl od ou) : pl ≤ 24 := h.2.2.2.2.2.1
theorem Mo.xo (h : Mo μ En Rd pl od ou) {i : Nat} (hi : i < pl) : mm_I μ 50 i = nI (od i) := (h.2.2.2.2.2.2.1 i hi).1
theorem Mo.ol (h : Mo μ En Rd pl od ou) {i : Nat} (hi : i < pl) : od i < 24 := (h.2.2.2.2.2.2.1 i hi).2
theorem Mo.xu (h : Mo μ En Rd pl od ou) {s : Nat} (hs : s < 12) : mm_I μ 51 s = ou s := h.2.2.2.2.2.2.2 s hs
theorem Mo.keep {ν : am_M} (h : Mo μ En Rd pl od ou) (h1 : mm_I ν 46 12 = mm_I μ 46 12) (h2 : mm_I ν 46 15 = mm_I μ 46 15) (h3 : mm_I ν 46 13 = mm_I μ 46 13) (h4 : ∀ k, mm_I ν 50 k = mm_I μ 50 k) (h5 : ∀ k, mm_I ν 51 k = mm_I μ 51 k) : Mo ν En Rd pl od ou := ⟨h1.trans h.1, h2.trans h.2.1, h3.trans h.2.2.1, h.e, h.r, h.p, fun i hi => ⟨(h4 i).trans (h.xo hi), h.ol hi⟩, fun s hs => (h5 s).trans (h.xu hs)⟩
end MOX
theorem am1_a {p : Nat → Bool} {c : Nat → Int32} {k : Nat} (hp : p k = true) (hn : am1 p c k = none) : am1 p c (k + 1) = some k := by
  simp only [am1, hn, if_pos hp]
theorem am1_b {p : Nat → Bool} {c : Nat → Int32} {k b : Nat} (hp : p k = true) (hn : am1 p c k = some b) (h : c k < c b) : am1 p c (k + 1) = some k := by
  simp only [am1, hn, if_pos (And.intro hp h)]
theorem am1_c {p : Nat → Bool} {c : Nat → Int32} {k b : Nat} (hn : am1 p c k = some b) (h : ¬ c k < c b) : am1 p c (k + 1) = some b := by
  simp only [am1, hn, if_neg (fun q : p k = true ∧ c k < c b => h q.2)]
theorem enO_neg {o : Option Nat} (h : enO (-1) o < 0) (hb : ∀ b, o = some b → b < 2 ^ 31) : o = none := by
  rcases o with _ | b
  · rfl
  · exact absurd h (nI_pos (hb b rfl))
theorem enO_nn {o : Option Nat} {x : Int32} (hx : x < 0) (h : ¬ enO x o < 0) : ∃ b, o = some b := by
  rcases o with _ | b
  · exact absurd hx h
  · exact ⟨b, rfl⟩
/-- ranks, round by round -/
def rk1 (x y : Int32) : Nat := if x < y then 2 else if x = y then 1 else 0
def rkI (lf : Nat → Bool) (c : Nat → Int32) (own : Int32) (s : Nat) : Nat → Nat
  | 0 => 0
  | o + 1 => rkI lf c own s o + (if o ≠ s ∧ lf o = true then rk1 (c o) own else 0)
theorem rkN_swap (lf : Nat → Bool) (tk : Nat → Nat → Int32) (r s : Nat) : ∀ o, rkN lf tk (r + 1) s o = rkN lf tk r s o + rkI lf (fun q => tk q r) (tk s r) s o
  | 0 => rfl
  | o + 1 => by
    have ih := rkN_swap lf tk r s o
    simp only [rkN, rkI]
    rw [ih]
    by_cases h : o ≠ s ∧ lf o = true
    · rw [if_pos h, if_pos h, if_pos h]
      simp only [rkA, rk1]
      omega
    · rw [if_neg h, if_neg h, if_neg h]
      omega
theorem rkN_0 (lf : Nat → Bool) (tk : Nat → Nat → Int32) (s : Nat) : ∀ o, rkN lf tk 0 s o = 0
  | 0 => rfl
  | o + 1 => by
    simp only [rkN]
    rw [rkN_0 lf tk s o]
    split <;> rfl
set_option maxRecDepth 100000 in
set_option maxHeartbeats 4000000 in
theorem ct_X7_leftMany {E : am_E} {μ : am_M} (hb : Bs μ) {En Rd pl : Nat} {od : Nat → Nat} {ou : Nat → Int32} (ho : Mo μ En Rd pl od ou) : am_Ct E yX7_leftMany cX7_leftMany 3 (some .int) rmX7_leftMany [.ref 46] μ (fun v μ' => v = some (.int (nI (cnt (fun s => decide (ou s = 0)) En))) ∧ μ = μ') := by
  refine am_Ct.of (ls := [some (.ref 46), none, none]) (by decide) (Nat.le_of_ble_eq_true rfl) rfl (fun C fx hnm => ?_)
  have hE := ho.e
  have hR := ho.r
  have hP := ho.p
  refine am_iconst (v := 0) fx dX7_leftMany_0 (by decide) ?_
  refine am_istore_n fx dX7_leftMany_1 (by decide) rfl ?_
  refine am_iconst (v := 0) fx dX7_leftMany_2 (by decide) ?_
  refine am_istore_n fx dX7_leftMany_3 (by decide) rfl ?_
  have lp4 : ∀ (mz : Nat) (r : Nat), En - r = mz → r ≤ En → am_W E C (am_MQ E C (fun v μ' => v = some (.int (nI (cnt (fun s => decide (ou s = 0)) En))) ∧ μ = μ') (rmX7_leftMany).cells (rmX7_leftMany).slots) μ 0 0 4 [some (.ref 46), some (.int (nI (cnt (fun s => decide (ou s = 0)) r))), some (.int (nI r))] [] := by
    intro mz
    induction mz using Nat.strongRecOn with
    | ind mz ih =>
      intro r hz hr
      refine am_iload_n fx dX7_leftMany_4 rfl ?_
      refine am_aload_n fx dX7_leftMany_5 rfl ?_
      refine am_getI fx dX7_leftMany_6 fkX7_69 (by decide) (by decide) rfl (so7 hb) ho.1 ?_
      refine am_icmp_ge fx 35 dX7_leftMany_9 (by decide) (fun c9 => ?_) (fun c9 => ?_)
      · try simp (disch := omega) only [bz_0, Classical.not_not, Int32.not_le, Int32.not_lt, Nat.not_le, Nat.not_lt, nI_leI, nI_ltI, nI_eq, nI_le0, nI_lt0] at c9
        refine am_iload_n fx dX7_leftMany_35 rfl ?_
        exact am_iret fx dX7_leftMany_36 ⟨by rw [show En = r by omega], rfl⟩
      · try simp (disch := omega) only [bz_0, Classical.not_not, Int32.not_le, Int32.not_lt, Nat.not_le, Nat.not_lt, nI_leI, nI_ltI, nI_eq, nI_le0, nI_lt0] at c9
        refine am_iload_n fx dX7_leftMany_12 rfl ?_
        refine am_aload_n fx dX7_leftMany_13 rfl ?_
        refine am_getR fx dX7_leftMany_14 fkX7_27 (by decide) (by decide) rfl (so7 hb) (rf7_19 hb) ?_
        refine am_iload_n fx dX7_leftMany_17 rfl ?_
        refine am_iald (j := r) fx dX7_leftMany_18 (sa7_19 hb) rfl (by omega) (by decide) (ho.xu (by omega)) ?_
        refine am_if_ne fx 26 dX7_leftMany_19 (by decide) (fun c19 => ?_) (fun c19 => ?_)
        · skip
          refine am_iconst (v := 0) fx dX7_leftMany_26 (by decide) ?_
          refine am_iadd fx dX7_leftMany_27 ?_
          refine am_topi (Int32.add_zero _) ?_
          refine am_istore_n fx dX7_leftMany_28 (by decide) rfl ?_
          first | refine am_iinc fx dX7_leftMany_29 rfl (nI_inc _) (by decide) rfl ?_ | refine am_iinc fx dX7_leftMany_29 rfl rfl (by decide) rfl ?_
          refine am_goto fx 4 dX7_leftMany_32 (by decide) ?_
          rw [← cnt_f (b := (fun s => decide (ou s = 0))) (r := r) (by simp [c19])]
          exact ih (En - (r + 1)) (by omega) (r + 1) rfl (by omega)
        · skip
          refine am_iconst (v := 1) fx dX7_leftMany_22 (by decide) ?_
          refine am_goto fx 27 dX7_leftMany_23 (by decide) ?_
          refine am_iadd fx dX7_leftMany_27 ?_
          refine am_topi (nI_1 _) ?_
          refine am_istore_n fx dX7_leftMany_28 (by decide) rfl ?_
          first | refine am_iinc fx dX7_leftMany_29 rfl (nI_inc _) (by decide) rfl ?_ | refine am_iinc fx dX7_leftMany_29 rfl rfl (by decide) rfl ?_
          refine am_goto fx 4 dX7_leftMany_32 (by decide) ?_
          rw [← cnt_t (b := (fun s => decide (ou s = 0))) (r := r) (by simp [c19])]
          exact ih (En - (r + 1)) (by omega) (r + 1) rfl (by omega)
  exact lp4 _ 0 rfl (Nat.zero_le _)
set_option maxRecDepth 100000 in
set_option maxHeartbeats 4000000 in
theorem ct_X7_isOn {E : am_E} {μ : am_M} (hb : Bs μ) : am_Ct E yX7_isOn cX7_isOn 1 (some .boolean) rmX7_isOn [.ref 46] μ (fun v μ' => v = some (.int (bz (0 ≤ mm_I μ 46 6 ∧ mm_I μ 46 17 = 0))) ∧ μ = μ') := by
  refine am_Ct.of (ls := [some (.ref 46)]) (by decide) (Nat.le_of_ble_eq_true rfl) rfl (fun C fx hnm => ?_)
  refine am_aload_n fx dX7_isOn_0 rfl ?_
  refine am_getI fx dX7_isOn_1 fkX7_20 (by decide) (by decide) rfl (so7 hb) rfl ?_
  refine am_if_lt fx 18 dX7_isOn_4 (by decide) (fun c4 => ?_) (fun c4 => ?_)
  · skip
    have c4 := Int32.not_le.mpr c4
    refine am_iconst (v := 0) fx dX7_isOn_18 (by decide) ?_
    exact am_zret fx dX7_isOn_19 (by first | exact Or.inl rfl | exact Or.inr rfl | exact bz_01) ⟨by rw [← bz_f (fun h => c4 h.1)], rfl⟩
  · skip
    have c4 := Int32.not_lt.mp c4
    refine am_aload_n fx dX7_isOn_7 rfl ?_
    refine am_getI fx dX7_isOn_8 fkX7_91 (by decide) (by decide) rfl (so7 hb) rfl ?_
    refine am_if_ne fx 18 dX7_isOn_11 (by decide) (fun c11 => ?_) (fun c11 => ?_)
    · skip
      refine am_iconst (v := 0) fx dX7_isOn_18 (by decide) ?_
      exact am_zret fx dX7_isOn_19 (by first | exact Or.inl rfl | exact Or.inr rfl | exact bz_01) ⟨by rw [← bz_f (fun h => c11 h.2)], rfl⟩
    · skip
      refine am_iconst (v := 1) fx dX7_isOn_14 (by decide) ?_
      refine am_goto fx 19 dX7_isOn_15 (by decide) ?_
      exact am_zret fx dX7_isOn_19 (by first | exact Or.inl rfl | exact Or.inr rfl | exact bz_01) ⟨by rw [← bz_t ⟨c4, c11⟩], rfl⟩
set_option maxRecDepth 100000 in
set_option maxHeartbeats 4000000 in
theorem ct_X7_ranOf {E : am_E} {μ : am_M} (hb : Bs μ) {En Rd pl : Nat} {od : Nat → Nat} {ou : Nat → Int32} (ho : Mo μ En Rd pl od ou) (s : Nat) (hs : s < 12) : am_Ct E yX7_ranOf cX7_ranOf 2 (some .int) rmX7_ranOf [.ref 46, .int (nI s)] μ (fun v μ' => v = some (.int (if ou s = 0 then nI Rd else ou s)) ∧ μ = μ') := by
  refine am_Ct.of (ls := [some (.ref 46), some (.int (nI s))]) (by decide) (Nat.le_of_ble_eq_true rfl) rfl (fun C fx hnm => ?_)
  refine am_aload_n fx dX7_ranOf_0 rfl ?_
  refine am_getR fx dX7_ranOf_1 fkX7_27 (by decide) (by decide) rfl (so7 hb) (rf7_19 hb) ?_
  refine am_iload_n fx dX7_ranOf_4 rfl ?_
  refine am_iald (j := s) fx dX7_ranOf_5 (sa7_19 hb) rfl (by omega) (by decide) (ho.xu (by omega)) ?_
  refine am_if_ne fx 16 dX7_ranOf_6 (by decide) (fun c6 => ?_) (fun c6 => ?_)
  · skip
    refine am_aload_n fx dX7_ranOf_16 rfl ?_
    refine am_getR fx dX7_ranOf_17 fkX7_27 (by decide) (by decide) rfl (so7 hb) (rf7_19 hb) ?_
    refine am_iload_n fx dX7_ranOf_20 rfl ?_
    refine am_iald (j := s) fx dX7_ranOf_21 (sa7_19 hb) rfl (by omega) (by decide) (ho.xu (by omega)) ?_
    exact am_iret fx dX7_ranOf_22 ⟨by rw [if_neg c6], rfl⟩
  · skip
    refine am_aload_n fx dX7_ranOf_9 rfl ?_
    refine am_getI fx dX7_ranOf_10 fkX7_79 (by decide) (by decide) rfl (so7 hb) ho.2.1 ?_
    refine am_goto fx 22 dX7_ranOf_13 (by decide) ?_
    exact am_iret fx dX7_ranOf_22 ⟨by rw [if_pos c6], rfl⟩
set_option maxRecDepth 100000 in
set_option maxHeartbeats 4000000 in
theorem ct_X7_runsOf {E : am_E} {μ : am_M} (hb : Bs μ) {En Rd pl : Nat} {od : Nat → Nat} {ou : Nat → Int32} (ho : Mo μ En Rd pl od ou) (s : Nat) (hs : s < 12) : am_Ct E yX7_runsOf cX7_runsOf 2 (some .int) rmX7_runsOf [.ref 46, .int (nI s)] μ (fun v μ' => v = some (.int (if ou s = 0 then nI (Rd + (if mm_I μ 46 17 = 0 ∧ nI s < mm_I μ 46 18 then 1 else 0)) else ou s)) ∧ μ = μ') := by
  refine am_Ct.of (ls := [some (.ref 46), some (.int (nI s))]) (by decide) (Nat.le_of_ble_eq_true rfl) rfl (fun C fx hnm => ?_)
  refine am_aload_n fx dX7_runsOf_0 rfl ?_
  refine am_getR fx dX7_runsOf_1 fkX7_27 (by decide) (by decide) rfl (so7 hb) (rf7_19 hb) ?_
  refine am_iload_n fx dX7_runsOf_4 rfl ?_
  refine am_iald (j := s) fx dX7_runsOf_5 (sa7_19 hb) rfl (by omega) (by decide) (ho.xu (by omega)) ?_
  refine am_if_eq fx 18 dX7_runsOf_6 (by decide) (fun c6 => ?_) (fun c6 => ?_)
  · skip
    refine am_aload_n fx dX7_runsOf_18 rfl ?_
    refine am_getI fx dX7_runsOf_19 fkX7_79 (by decide) (by decide) rfl (so7 hb) ho.2.1 ?_
    refine am_aload_n fx dX7_runsOf_22 rfl ?_
    refine am_getI fx dX7_runsOf_23 fkX7_91 (by decide) (by decide) rfl (so7 hb) rfl ?_
    refine am_if_ne fx 41 dX7_runsOf_26 (by decide) (fun c26 => ?_) (fun c26 => ?_)
    · skip
      refine am_iconst (v := 0) fx dX7_runsOf_41 (by decide) ?_
      refine am_iadd fx dX7_runsOf_42 ?_
      refine am_topi (Int32.add_zero _) ?_
      exact am_iret fx dX7_runsOf_43 ⟨by rw [if_pos c6, if_neg (fun h => c26 h.1)]; rfl, rfl⟩
    · skip
      refine am_iload_n fx dX7_runsOf_29 rfl ?_
      refine am_aload_n fx dX7_runsOf_30 rfl ?_
      refine am_getI fx dX7_runsOf_31 fkX7_94 (by decide) (by decide) rfl (so7 hb) rfl ?_
      refine am_icmp_ge fx 41 dX7_runsOf_34 (by decide) (fun c34 => ?_) (fun c34 => ?_)
      · skip
        refine am_iconst (v := 0) fx dX7_runsOf_41 (by decide) ?_
        refine am_iadd fx dX7_runsOf_42 ?_
        refine am_topi (Int32.add_zero _) ?_
        exact am_iret fx dX7_runsOf_43 ⟨by rw [if_pos c6, if_neg (fun h => Int32.not_lt.mpr c34 h.2)]; rfl, rfl⟩
      · skip
        have c34 := Int32.not_le.mp c34
        refine am_iconst (v := 1) fx dX7_runsOf_37 (by decide) ?_
        refine am_goto fx 42 dX7_runsOf_38 (by decide) ?_
        refine am_iadd fx dX7_runsOf_42 ?_
        refine am_topi (nI_1 _) ?_
        exact am_iret fx dX7_runsOf_43 ⟨by rw [if_pos c6, if_pos ⟨c26, c34⟩], rfl⟩
  · skip
    refine am_aload_n fx dX7_runsOf_9 rfl ?_
    refine am_getR fx dX7_runsOf_10 fkX7_27 (by decide) (by decide) rfl (so7 hb) (rf7_19 hb) ?_
    refine am_iload_n fx dX7_runsOf_13 rfl ?_
    refine am_iald (j := s) fx dX7_runsOf_14 (sa7_19 hb) rfl (by omega) (by decide) (ho.xu (by omega)) ?_
    refine am_goto fx 43 dX7_runsOf_15 (by decide) ?_
    exact am_iret fx dX7_runsOf_43 ⟨by rw [if_neg c6], rfl⟩
set_option maxRecDepth 100000 in
set_option maxHeartbeats 4000000 in
theorem ct_X7_rankOf {E : am_E} {μ : am_M} (hb : Bs μ) {En Rd pl : Nat} {od : Nat → Nat} {ou : Nat → Int32} (ho : Mo μ En Rd pl od ou) {S N : Nat} {cs : Nat → Nat → Int32} (hm : Mt μ S N cs) (s : Nat) (hs : s < 12) : am_Ct E yX7_rankOf cX7_rankOf 7 (some .int) rmX7_rankOf [.ref 46, .int (nI s)] μ (fun v μ' => v = some (.int (nI (rkN (fun s => decide (ou s = 0)) (fun s r => cs s (od r)) Rd s En))) ∧ μ = μ') := by
  refine am_Ct.of (ls := [some (.ref 46), some (.int (nI s)), none, none, none, none, none]) (by decide) (Nat.le_of_ble_eq_true rfl) rfl (fun C fx hnm => ?_)
  have hE := ho.e
  have hR := ho.r
  have hP := ho.p
  refine am_iconst (v := 0) fx dX7_rankOf_0 (by decide) ?_
  refine am_topi (show (0 : Int32) = nI (rkN (fun s => decide (ou s = 0)) (fun s r => cs s (od r)) 0 s En) by rw [rkN_0]; rfl) ?_
  refine am_istore_n fx dX7_rankOf_1 (by decide) rfl ?_
  refine am_iconst (v := 0) fx dX7_rankOf_2 (by decide) ?_
  refine am_istore_n fx dX7_rankOf_3 (by decide) rfl ?_
  have lp4 : ∀ (mz : Nat) (r : Nat), Rd - r = mz → r ≤ Rd → am_W E C (am_MQ E C (fun v μ' => v = some (.int (nI (rkN (fun s => decide (ou s = 0)) (fun s r => cs s (od r)) Rd s En))) ∧ μ = μ') (rmX7_rankOf).cells (rmX7_rankOf).slots) μ 0 0 4 [some (.ref 46), some (.int (nI s)), some (.int (nI (rkN (fun s => decide (ou s = 0)) (fun s r => cs s (od r)) r s En))), some (.int (nI r)), none, none, none] [] := by
    intro mz
    induction mz using Nat.strongRecOn with
    | ind mz ih =>
      intro r hz hr
      refine am_iload_n fx dX7_rankOf_4 rfl ?_
      refine am_aload_n fx dX7_rankOf_5 rfl ?_
      refine am_getI fx dX7_rankOf_6 fkX7_79 (by decide) (by decide) rfl (so7 hb) ho.2.1 ?_
      refine am_icmp_ge fx 105 dX7_rankOf_9 (by decide) (fun c9 => ?_) (fun c9 => ?_)
      · try simp (disch := omega) only [bz_0, Classical.not_not, Int32.not_le, Int32.not_lt, Nat.not_le, Nat.not_lt, nI_leI, nI_ltI, nI_eq, nI_le0, nI_lt0] at c9
        refine am_iload_n fx dX7_rankOf_105 rfl ?_
        exact am_iret fx dX7_rankOf_106 ⟨by rw [show Rd = r by omega], rfl⟩
      · try simp (disch := omega) only [bz_0, Classical.not_not, Int32.not_le, Int32.not_lt, Nat.not_le, Nat.not_lt, nI_leI, nI_ltI, nI_eq, nI_le0, nI_lt0] at c9
        refine am_aload_n fx dX7_rankOf_12 rfl ?_
        refine am_iload_n fx dX7_rankOf_13 rfl ?_
        refine am_aload_n fx dX7_rankOf_14 rfl ?_
        refine am_getR fx dX7_rankOf_15 fkX7_24 (by decide) (by decide) rfl (so7 hb) (rf7_14 hb) ?_
        refine am_iload_n fx dX7_rankOf_18 rfl ?_
        refine am_iald (j := r) fx dX7_rankOf_19 (sa7_14 hb) rfl (by omega) (by decide) (ho.xo (by omega)) ?_
        refine am_callV fx dX7_rankOf_20 mkX7_65 (ct_X7_costAt hb hm s (od r) hs (ho.ol (by omega))) (so7 hb) ⟨by decide, rfl⟩ rfl (Nat.le_of_ble_eq_true rfl) ⟨by decide, by decide⟩ ⟨Nat.le_of_ble_eq_true rfl, Nat.le_of_ble_eq_true rfl⟩ rfl ?_
        rintro _ _ ⟨rfl, rfl⟩
        refine am_istore fx dX7_rankOf_23 (by decide) rfl ?_
        refine am_iconst (v := 0) fx dX7_rankOf_25 (by decide) ?_
        refine am_istore fx dX7_rankOf_26 (by decide) rfl ?_
        have lp28 : ∀ (mz : Nat) (o : Nat), En - o = mz → o ≤ En → am_W E C (am_MQ E C (fun v μ' => v = some (.int (nI (rkN (fun s => decide (ou s = 0)) (fun s r => cs s (od r)) Rd s En))) ∧ μ = μ') (rmX7_rankOf).cells (rmX7_rankOf).slots) μ 0 0 28 [some (.ref 46), some (.int (nI s)), some (.int (nI (rkN (fun s => decide (ou s = 0)) (fun s r => cs s (od r)) r s En + rkI (fun s => decide (ou s = 0)) (fun q => cs q (od r)) (cs s (od r)) s o))), some (.int (nI r)), some (.int (cs s (od r))), some (.int (nI o)), none] [] := by
          intro mz
          induction mz using Nat.strongRecOn with
          | ind mz ih2 =>
            intro o hz2 ho2
            refine am_iload fx dX7_rankOf_28 rfl ?_
            refine am_aload_n fx dX7_rankOf_30 rfl ?_
            refine am_getI fx dX7_rankOf_31 fkX7_69 (by decide) (by decide) rfl (so7 hb) ho.1 ?_
            refine am_icmp_ge fx 99 dX7_rankOf_34 (by decide) (fun c34 => ?_) (fun c34 => ?_)
            · try simp (disch := omega) only [bz_0, Classical.not_not, Int32.not_le, Int32.not_lt, Nat.not_le, Nat.not_lt, nI_leI, nI_ltI, nI_eq, nI_le0, nI_lt0] at c34
              rw [show o = En by omega, ← rkN_swap (fun s => decide (ou s = 0)) (fun s r => cs s (od r)) r s En]
              first | refine am_iinc fx dX7_rankOf_99 rfl (nI_inc _) (by decide) rfl ?_ | refine am_iinc fx dX7_rankOf_99 rfl rfl (by decide) rfl ?_
              refine am_goto fx 4 dX7_rankOf_102 (by decide) ?_
              refine am_sub [true, true, true, true, false, false, false] rfl ?_
              exact ih (Rd - (r + 1)) (by omega) (r + 1) rfl (by omega)
            · try simp (disch := omega) only [bz_0, Classical.not_not, Int32.not_le, Int32.not_lt, Nat.not_le, Nat.not_lt, nI_leI, nI_ltI, nI_eq, nI_le0, nI_lt0] at c34
              refine am_iload fx dX7_rankOf_37 rfl ?_
              refine am_iload_n fx dX7_rankOf_39 rfl ?_
              refine am_icmp_eq fx 93 dX7_rankOf_40 (by decide) (fun c40 => ?_) (fun c40 => ?_)
              · try simp (disch := omega) only [bz_0, Classical.not_not, Int32.not_le, Int32.not_lt, Nat.not_le, Nat.not_lt, nI_leI, nI_ltI, nI_eq, nI_le0, nI_lt0] at c40
                first | refine am_iinc fx dX7_rankOf_93 rfl (nI_inc _) (by decide) rfl ?_ | refine am_iinc fx dX7_rankOf_93 rfl rfl (by decide) rfl ?_
                refine am_goto fx 28 dX7_rankOf_96 (by decide) ?_
                have e1 : rkI (fun s => decide (ou s = 0)) (fun q => cs q (od r)) (cs s (od r)) s (o + 1) = rkI (fun s => decide (ou s = 0)) (fun q => cs q (od r)) (cs s (od r)) s o := by
                  simp only [rkI]
                  rw [if_neg (fun q => q.1 c40)]; rfl
                rw [← e1]
                refine am_sub [true, true, true, true, true, true, false] rfl ?_
                exact ih2 (En - (o + 1)) (by omega) (o + 1) rfl (by omega)
              · try simp (disch := omega) only [bz_0, Classical.not_not, Int32.not_le, Int32.not_lt, Nat.not_le, Nat.not_lt, nI_leI, nI_ltI, nI_eq, nI_le0, nI_lt0] at c40
                refine am_aload_n fx dX7_rankOf_43 rfl ?_
                refine am_getR fx dX7_rankOf_44 fkX7_27 (by decide) (by decide) rfl (so7 hb) (rf7_19 hb) ?_
                refine am_iload fx dX7_rankOf_47 rfl ?_
                refine am_iald (j := o) fx dX7_rankOf_49 (sa7_19 hb) rfl (by omega) (by decide) (ho.xu (by omega)) ?_
                refine am_if_ne fx 93 dX7_rankOf_50 (by decide) (fun c50 => ?_) (fun c50 => ?_)
                · skip
                  first | refine am_iinc fx dX7_rankOf_93 rfl (nI_inc _) (by decide) rfl ?_ | refine am_iinc fx dX7_rankOf_93 rfl rfl (by decide) rfl ?_
                  refine am_goto fx 28 dX7_rankOf_96 (by decide) ?_
                  have e1 : rkI (fun s => decide (ou s = 0)) (fun q => cs q (od r)) (cs s (od r)) s (o + 1) = rkI (fun s => decide (ou s = 0)) (fun q => cs q (od r)) (cs s (od r)) s o := by
                    simp only [rkI]
                    rw [if_neg (fun q => c50 (by simpa using q.2))]; rfl
                  rw [← e1]
                  refine am_sub [true, true, true, true, true, true, false] rfl ?_
                  exact ih2 (En - (o + 1)) (by omega) (o + 1) rfl (by omega)
                · skip
                  refine am_aload_n fx dX7_rankOf_53 rfl ?_
                  refine am_iload fx dX7_rankOf_54 rfl ?_
                  refine am_aload_n fx dX7_rankOf_56 rfl ?_
                  refine am_getR fx dX7_rankOf_57 fkX7_24 (by decide) (by decide) rfl (so7 hb) (rf7_14 hb) ?_
                  refine am_iload_n fx dX7_rankOf_60 rfl ?_
                  refine am_iald (j := r) fx dX7_rankOf_61 (sa7_14 hb) rfl (by omega) (by decide) (ho.xo (by omega)) ?_
                  refine am_callV fx dX7_rankOf_62 mkX7_65 (ct_X7_costAt hb hm o (od r) (by omega) (ho.ol (by omega))) (so7 hb) ⟨by decide, rfl⟩ rfl (Nat.le_of_ble_eq_true rfl) ⟨by decide, by decide⟩ ⟨Nat.le_of_ble_eq_true rfl, Nat.le_of_ble_eq_true rfl⟩ rfl ?_
                  rintro _ _ ⟨rfl, rfl⟩
                  refine am_istore fx dX7_rankOf_65 (by decide) rfl ?_
                  refine am_iload_n fx dX7_rankOf_67 rfl ?_
                  refine am_iload fx dX7_rankOf_68 rfl ?_
                  refine am_iload fx dX7_rankOf_70 rfl ?_
                  refine am_icmp_ge fx 79 dX7_rankOf_72 (by decide) (fun c72 => ?_) (fun c72 => ?_)
                  · skip
                    refine am_iload fx dX7_rankOf_79 rfl ?_
                    refine am_iload fx dX7_rankOf_81 rfl ?_
                    refine am_icmp_ne fx 90 dX7_rankOf_83 (by decide) (fun c83 => ?_) (fun c83 => ?_)
                    · skip
                      refine am_iconst (v := 0) fx dX7_rankOf_90 (by decide) ?_
                      refine am_iadd fx dX7_rankOf_91 ?_
                      refine am_topi (nI_add _ 0) ?_
                      refine am_istore_n fx dX7_rankOf_92 (by decide) rfl ?_
                      first | refine am_iinc fx dX7_rankOf_93 rfl (nI_inc _) (by decide) rfl ?_ | refine am_iinc fx dX7_rankOf_93 rfl rfl (by decide) rfl ?_
                      refine am_goto fx 28 dX7_rankOf_96 (by decide) ?_
                      have e1 : rkI (fun s => decide (ou s = 0)) (fun q => cs q (od r)) (cs s (od r)) s (o + 1) = rkI (fun s => decide (ou s = 0)) (fun q => cs q (od r)) (cs s (od r)) s o + 0 := by
                        simp only [rkI]
                        rw [if_pos ⟨c40, by simpa using c50⟩]
                        simp only [rk1]
                        rw [if_neg (Int32.not_lt.mpr c72), if_neg c83]
                      rw [Nat.add_assoc, ← e1]
                      refine am_sub [true, true, true, true, true, true, false] rfl ?_
                      exact ih2 (En - (o + 1)) (by omega) (o + 1) rfl (by omega)
                    · skip
                      refine am_iconst (v := 1) fx dX7_rankOf_86 (by decide) ?_
                      refine am_goto fx 91 dX7_rankOf_87 (by decide) ?_
                      refine am_iadd fx dX7_rankOf_91 ?_
                      refine am_topi (nI_add _ 1) ?_
                      refine am_istore_n fx dX7_rankOf_92 (by decide) rfl ?_
                      first | refine am_iinc fx dX7_rankOf_93 rfl (nI_inc _) (by decide) rfl ?_ | refine am_iinc fx dX7_rankOf_93 rfl rfl (by decide) rfl ?_
                      refine am_goto fx 28 dX7_rankOf_96 (by decide) ?_
                      have e1 : rkI (fun s => decide (ou s = 0)) (fun q => cs q (od r)) (cs s (od r)) s (o + 1) = rkI (fun s => decide (ou s = 0)) (fun q => cs q (od r)) (cs s (od r)) s o + 1 := by
                        simp only [rkI]
                        rw [if_pos ⟨c40, by simpa using c50⟩]
                        simp only [rk1]
                        rw [if_neg (Int32.not_lt.mpr c72), if_pos c83]
                      rw [Nat.add_assoc, ← e1]
                      refine am_sub [true, true, true, true, true, true, false] rfl ?_
                      exact ih2 (En - (o + 1)) (by omega) (o + 1) rfl (by omega)
                  · skip
                    have c72 := Int32.not_le.mp c72
                    refine am_iconst (v := 2) fx dX7_rankOf_75 (by decide) ?_
                    refine am_goto fx 91 dX7_rankOf_76 (by decide) ?_
                    refine am_iadd fx dX7_rankOf_91 ?_
                    refine am_topi (nI_add _ 2) ?_
                    refine am_istore_n fx dX7_rankOf_92 (by decide) rfl ?_
                    first | refine am_iinc fx dX7_rankOf_93 rfl (nI_inc _) (by decide) rfl ?_ | refine am_iinc fx dX7_rankOf_93 rfl rfl (by decide) rfl ?_
                    refine am_goto fx 28 dX7_rankOf_96 (by decide) ?_
                    have e1 : rkI (fun s => decide (ou s = 0)) (fun q => cs q (od r)) (cs s (od r)) s (o + 1) = rkI (fun s => decide (ou s = 0)) (fun q => cs q (od r)) (cs s (od r)) s o + 2 := by
                      simp only [rkI]
                      rw [if_pos ⟨c40, by simpa using c50⟩]
                      simp only [rk1]
                      rw [if_pos c72]
                    rw [Nat.add_assoc, ← e1]
                    refine am_sub [true, true, true, true, true, true, false] rfl ?_
                    exact ih2 (En - (o + 1)) (by omega) (o + 1) rfl (by omega)
        refine am_sub [true, true, true, true, true, true, false] rfl ?_
        exact lp28 _ 0 rfl (Nat.zero_le _)
  refine am_sub [true, true, true, true, false, false, false] rfl ?_
  exact lp4 _ 0 rfl (Nat.zero_le _)
set_option maxRecDepth 100000 in
set_option maxHeartbeats 4000000 in
theorem ct_X7_leader {E : am_E} {μ : am_M} (hb : Bs μ) {En Rd pl : Nat} {od : Nat → Nat} {ou : Nat → Int32} (ho : Mo μ En Rd pl od ou) {S N : Nat} {cs : Nat → Nat → Int32} (hm : Mt μ S N cs) : am_Ct E yX7_leader cX7_leader 3 (some .int) rmX7_leader [.ref 46] μ (fun v μ' => v = some (.int (enO (-1) (am1 (fun s => decide (ou s = 0)) (fun x => nI (rkN (fun s => decide (ou s = 0)) (fun s r => cs s (od r)) Rd x En)) En))) ∧ μ = μ') := by
  refine am_Ct.of (ls := [some (.ref 46), none, none]) (by decide) (Nat.le_of_ble_eq_true rfl) rfl (fun C fx hnm => ?_)
  have hE := ho.e
  have hR := ho.r
  have hP := ho.p
  refine am_iconst (v := (-1)) fx dX7_leader_0 (by decide) ?_
  refine am_istore_n fx dX7_leader_1 (by decide) rfl ?_
  refine am_iconst (v := 0) fx dX7_leader_2 (by decide) ?_
  refine am_istore_n fx dX7_leader_3 (by decide) rfl ?_
  have lp4 : ∀ (mz : Nat) (r : Nat), En - r = mz → r ≤ En → am_W E C (am_MQ E C (fun v μ' => v = some (.int (enO (-1) (am1 (fun s => decide (ou s = 0)) (fun x => nI (rkN (fun s => decide (ou s = 0)) (fun s r => cs s (od r)) Rd x En)) En))) ∧ μ = μ') (rmX7_leader).cells (rmX7_leader).slots) μ 0 0 4 [some (.ref 46), some (.int (enO (-1) (am1 (fun s => decide (ou s = 0)) (fun x => nI (rkN (fun s => decide (ou s = 0)) (fun s r => cs s (od r)) Rd x En)) r))), some (.int (nI r))] [] := by
    intro mz
    induction mz using Nat.strongRecOn with
    | ind mz ih =>
      intro r hz hr
      have hlt : ∀ b, (am1 (fun s => decide (ou s = 0)) (fun x => nI (rkN (fun s => decide (ou s = 0)) (fun s r => cs s (od r)) Rd x En)) r) = some b → b < r := fun b hb9 => (am1_lt hb9).1
      refine am_iload_n fx dX7_leader_4 rfl ?_
      refine am_aload_n fx dX7_leader_5 rfl ?_
      refine am_getI fx dX7_leader_6 fkX7_69 (by decide) (by decide) rfl (so7 hb) ho.1 ?_
      refine am_icmp_ge fx 50 dX7_leader_9 (by decide) (fun c9 => ?_) (fun c9 => ?_)
      · try simp (disch := omega) only [bz_0, Classical.not_not, Int32.not_le, Int32.not_lt, Nat.not_le, Nat.not_lt, nI_leI, nI_ltI, nI_eq, nI_le0, nI_lt0] at c9
        refine am_iload_n fx dX7_leader_50 rfl ?_
        exact am_iret fx dX7_leader_51 ⟨by rw [show En = r by omega], rfl⟩
      · try simp (disch := omega) only [bz_0, Classical.not_not, Int32.not_le, Int32.not_lt, Nat.not_le, Nat.not_lt, nI_leI, nI_ltI, nI_eq, nI_le0, nI_lt0] at c9
        refine am_aload_n fx dX7_leader_12 rfl ?_
        refine am_getR fx dX7_leader_13 fkX7_27 (by decide) (by decide) rfl (so7 hb) (rf7_19 hb) ?_
        refine am_iload_n fx dX7_leader_16 rfl ?_
        refine am_iald (j := r) fx dX7_leader_17 (sa7_19 hb) rfl (by omega) (by decide) (ho.xu (by omega)) ?_
        refine am_if_ne fx 42 dX7_leader_18 (by decide) (fun c18 => ?_) (fun c18 => ?_)
        · skip
          refine am_iload_n fx dX7_leader_42 rfl ?_
          refine am_topi (show _ = enO (-1) (am1 (fun s => decide (ou s = 0)) (fun x => nI (rkN (fun s => decide (ou s = 0)) (fun s r => cs s (od r)) Rd x En)) (r + 1)) by rw [am1_n (by simp [c18])]) ?_
          refine am_istore_n fx dX7_leader_43 (by decide) rfl ?_
          first | refine am_iinc fx dX7_leader_44 rfl (nI_inc _) (by decide) rfl ?_ | refine am_iinc fx dX7_leader_44 rfl rfl (by decide) rfl ?_
          refine am_goto fx 4 dX7_leader_47 (by decide) ?_
          exact ih (En - (r + 1)) (by omega) (r + 1) rfl (by omega)
        · skip
          refine am_iload_n fx dX7_leader_21 rfl ?_
          refine am_if_lt fx 38 dX7_leader_22 (by decide) (fun c22 => ?_) (fun c22 => ?_)
          · skip
            have c22 : (am1 (fun s => decide (ou s = 0)) (fun x => nI (rkN (fun s => decide (ou s = 0)) (fun s r => cs s (od r)) Rd x En)) r) = none := enO_neg c22 (fun b hb9 => by have := hlt b hb9; omega)
            refine am_iload_n fx dX7_leader_38 rfl ?_
            refine am_topi (show nI r = enO (-1) (am1 (fun s => decide (ou s = 0)) (fun x => nI (rkN (fun s => decide (ou s = 0)) (fun s r => cs s (od r)) Rd x En)) (r + 1)) by rw [am1_a (by simp [c18]) c22]; rfl) ?_
            refine am_goto fx 43 dX7_leader_39 (by decide) ?_
            skip
            refine am_istore_n fx dX7_leader_43 (by decide) rfl ?_
            first | refine am_iinc fx dX7_leader_44 rfl (nI_inc _) (by decide) rfl ?_ | refine am_iinc fx dX7_leader_44 rfl rfl (by decide) rfl ?_
            refine am_goto fx 4 dX7_leader_47 (by decide) ?_
            exact ih (En - (r + 1)) (by omega) (r + 1) rfl (by omega)
          · skip
            obtain ⟨b, hbs⟩ := enO_nn (by decide) c22
            have hbr := hlt b hbs
            rw [hbs]
            refine am_aload_n fx dX7_leader_25 rfl ?_
            refine am_iload_n fx dX7_leader_26 rfl ?_
            refine am_callV fx dX7_leader_27 mkX7_117 (ct_X7_rankOf hb ho hm r (by omega)) (so7 hb) ⟨by decide, rfl⟩ rfl (Nat.le_of_ble_eq_true rfl) ⟨by decide, by decide⟩ ⟨Nat.le_of_ble_eq_true rfl, Nat.le_of_ble_eq_true rfl⟩ rfl ?_
            rintro _ _ ⟨rfl, rfl⟩
            refine am_aload_n fx dX7_leader_30 rfl ?_
            refine am_iload_n fx dX7_leader_31 rfl ?_
            refine am_callV fx dX7_leader_32 mkX7_117 (ct_X7_rankOf hb ho hm b (by omega)) (so7 hb) ⟨by decide, rfl⟩ rfl (Nat.le_of_ble_eq_true rfl) ⟨by decide, by decide⟩ ⟨Nat.le_of_ble_eq_true rfl, Nat.le_of_ble_eq_true rfl⟩ rfl ?_
            rintro _ _ ⟨rfl, rfl⟩
            refine am_icmp_ge fx 42 dX7_leader_35 (by decide) (fun c35 => ?_) (fun c35 => ?_)
            · skip
              refine am_iload_n fx dX7_leader_42 rfl ?_
              refine am_topi (show _ = enO (-1) (am1 (fun s => decide (ou s = 0)) (fun x => nI (rkN (fun s => decide (ou s = 0)) (fun s r => cs s (od r)) Rd x En)) (r + 1)) by rw [am1_c hbs (Int32.not_lt.mpr c35)]) ?_
              refine am_istore_n fx dX7_leader_43 (by decide) rfl ?_
              first | refine am_iinc fx dX7_leader_44 rfl (nI_inc _) (by decide) rfl ?_ | refine am_iinc fx dX7_leader_44 rfl rfl (by decide) rfl ?_
              refine am_goto fx 4 dX7_leader_47 (by decide) ?_
              exact ih (En - (r + 1)) (by omega) (r + 1) rfl (by omega)
            · skip
              have c35 := Int32.not_le.mp c35
              refine am_iload_n fx dX7_leader_38 rfl ?_
              refine am_topi (show nI r = enO (-1) (am1 (fun s => decide (ou s = 0)) (fun x => nI (rkN (fun s => decide (ou s = 0)) (fun s r => cs s (od r)) Rd x En)) (r + 1)) by rw [am1_b (by simp [c18]) hbs c35]; rfl) ?_
              refine am_goto fx 43 dX7_leader_39 (by decide) ?_
              skip
              refine am_istore_n fx dX7_leader_43 (by decide) rfl ?_
              first | refine am_iinc fx dX7_leader_44 rfl (nI_inc _) (by decide) rfl ?_ | refine am_iinc fx dX7_leader_44 rfl rfl (by decide) rfl ?_
              refine am_goto fx 4 dX7_leader_47 (by decide) ?_
              exact ih (En - (r + 1)) (by omega) (r + 1) rfl (by omega)
  exact lp4 _ 0 rfl (Nat.zero_le _)
