/-- ranks, as they are counted -/
def rkA (ts to : Nat → Int32) : Nat → Nat
  | 0 => 0
  | r + 1 => rkA ts to r + (if to r < ts r then 2 else if to r = ts r then 1 else 0)
theorem rkA_le (ts to : Nat → Int32) : ∀ r, rkA ts to r ≤ 2 * r
  | 0 => Nat.le_refl _
  | r + 1 => by
    have := rkA_le ts to r
    simp only [rkA]
    split
    · omega
    · split <;> omega
def rkN (lf : Nat → Bool) (tk : Nat → Nat → Int32) (Rd s : Nat) : Nat → Nat
  | 0 => 0
  | o + 1 => rkN lf tk Rd s o + (if o ≠ s ∧ lf o = true then rkA (tk s) (tk o) Rd else 0)
theorem rkN_le (lf : Nat → Bool) (tk : Nat → Nat → Int32) (Rd s : Nat) : ∀ o, rkN lf tk Rd s o ≤ 2 * Rd * o
  | 0 => Nat.le_refl _
  | o + 1 => by
    have h1 := rkN_le lf tk Rd s o
    have h2 := rkA_le (tk s) (tk o) Rd
    simp only [rkN]
    rw [Nat.mul_succ]
    split <;> omega
theorem rkN_top (lf : Nat → Bool) (tk : Nat → Nat → Int32) {Rd s o : Nat} (hR : Rd ≤ 24) (ho : o ≤ 12) : rkN lf tk Rd s o ≤ 600 := by
  have h1 := rkN_le lf tk Rd s o
  have h2 : 2 * Rd * o ≤ 48 * 12 := Nat.mul_le_mul (by omega) ho
  omega
abbrev tkn (μ : am_M) (q : Nat) : Nat → Nat → Int32 := fun s r => mm_I μ (q + 3 + s) r
abbrev lft (μ : am_M) (q : Nat) : Nat → Bool := fun s => decide (mm_I μ (q + 15) s = 0)
set_option maxRecDepth 100000 in
set_option maxHeartbeats 4000000 in
theorem ct_X2_rankAgainst {E : am_E} {μ : am_M} (hb : Bs μ) {q L : Nat} (hr : Rc μ q L) {En Rd : Nat} (ha : Ra μ q En Rd) (s o : Nat) (hs : s < 12) (ho : o < 12) : am_Ct E yX2_rankAgainst cX2_rankAgainst 5 (some .int) rmX2_rankAgainst [.ref (q + 1), .int (nI s), .int (nI o)] μ (fun v μ' => v = some (.int (nI (rkA (tkn μ q s) (tkn μ q o) Rd))) ∧ μ = μ') := by
  refine am_Ct.of (ls := [some (.ref (q + 1)), some (.int (nI s)), some (.int (nI o)), none, none]) (by decide) (Nat.le_of_ble_eq_true rfl) rfl (fun C fx hnm => ?_)
  have hE := ha.e
  have hR := ha.r
  have hL := hr.l
  have hq := hr.qq
  refine am_iconst (v := 0) fx dX2_rankAgainst_0 (by decide) ?_
  refine am_istore_n fx dX2_rankAgainst_1 (by decide) rfl ?_
  refine am_iconst (v := 0) fx dX2_rankAgainst_2 (by decide) ?_
  refine am_istore fx dX2_rankAgainst_3 (by decide) rfl ?_
  have lp5 : ∀ (mz : Nat) (r : Nat) (x : Int32), Rd - r = mz → r ≤ Rd → x = nI (rkA (tkn μ q s) (tkn μ q o) r) → am_W E C (am_MQ E C (fun v μ' => v = some (.int (nI (rkA (tkn μ q s) (tkn μ q o) Rd))) ∧ μ = μ') (rmX2_rankAgainst).cells (rmX2_rankAgainst).slots) μ 0 0 5 [some (.ref (q + 1)), some (.int (nI s)), some (.int (nI o)), some (.int x), some (.int (nI r))] [] := by
    intro mz
    induction mz using Nat.strongRecOn with
    | ind mz ih =>
      intro r x hn hr1 hx
      refine am_iload fx dX2_rankAgainst_5 rfl ?_
      refine am_aload_n fx dX2_rankAgainst_7 rfl ?_
      refine am_getI fx dX2_rankAgainst_8 fkX2_33 (by decide) (by decide) rfl (so2 hr) ha.2.1 ?_
      refine am_icmp_ge fx 71 dX2_rankAgainst_11 (by decide) (fun c11 => ?_) (fun c11 => ?_)
      · try simp (disch := omega) only [bz_0, Classical.not_not, Int32.not_le, Int32.not_lt, Nat.not_le, Nat.not_lt, nI_leI, nI_ltI, nI_eq, nI_le0, nI_lt0] at c11
        refine am_iload_n fx dX2_rankAgainst_71 rfl ?_
        exact am_iret fx dX2_rankAgainst_72 ⟨by rw [hx, show r = Rd by omega], rfl⟩
      · try simp (disch := omega) only [bz_0, Classical.not_not, Int32.not_le, Int32.not_lt, Nat.not_le, Nat.not_lt, nI_leI, nI_ltI, nI_eq, nI_le0, nI_lt0] at c11
        refine am_aload_n fx dX2_rankAgainst_14 rfl ?_
        refine am_getR fx dX2_rankAgainst_15 fkX2_11 (by decide) (by decide) rfl (so2 hr) (rf2_5 hr) ?_
        refine am_iload_n fx dX2_rankAgainst_18 rfl ?_
        refine am_aald  fx dX2_rankAgainst_19 (sa2_5 hr) rfl (by omega) (by decide) (rg2_5 hr (by omega)) ?_
        refine am_iload fx dX2_rankAgainst_20 rfl ?_
        refine am_iald  fx dX2_rankAgainst_22 (sg2_5 hr (by omega)) rfl (by omega) (by decide) rfl ?_
        refine am_aload_n fx dX2_rankAgainst_23 rfl ?_
        refine am_getR fx dX2_rankAgainst_24 fkX2_11 (by decide) (by decide) rfl (so2 hr) (rf2_5 hr) ?_
        refine am_iload_n fx dX2_rankAgainst_27 rfl ?_
        refine am_aald  fx dX2_rankAgainst_28 (sa2_5 hr) rfl (by omega) (by decide) (rg2_5 hr (by omega)) ?_
        refine am_iload fx dX2_rankAgainst_29 rfl ?_
        refine am_iald  fx dX2_rankAgainst_31 (sg2_5 hr (by omega)) rfl (by omega) (by decide) rfl ?_
        refine am_icmp_ge fx 41 dX2_rankAgainst_32 (by decide) (fun c32 => ?_) (fun c32 => ?_)
        · try simp (disch := omega) only [bz_0, Classical.not_not, Int32.not_le, Int32.not_lt, Nat.not_le, Nat.not_lt, nI_leI, nI_ltI, nI_eq, nI_le0, nI_lt0] at c32
          refine am_aload_n fx dX2_rankAgainst_41 rfl ?_
          refine am_getR fx dX2_rankAgainst_42 fkX2_11 (by decide) (by decide) rfl (so2 hr) (rf2_5 hr) ?_
          refine am_iload_n fx dX2_rankAgainst_45 rfl ?_
          refine am_aald  fx dX2_rankAgainst_46 (sa2_5 hr) rfl (by omega) (by decide) (rg2_5 hr (by omega)) ?_
          refine am_iload fx dX2_rankAgainst_47 rfl ?_
          refine am_iald  fx dX2_rankAgainst_49 (sg2_5 hr (by omega)) rfl (by omega) (by decide) rfl ?_
          refine am_aload_n fx dX2_rankAgainst_50 rfl ?_
          refine am_getR fx dX2_rankAgainst_51 fkX2_11 (by decide) (by decide) rfl (so2 hr) (rf2_5 hr) ?_
          refine am_iload_n fx dX2_rankAgainst_54 rfl ?_
          refine am_aald  fx dX2_rankAgainst_55 (sa2_5 hr) rfl (by omega) (by decide) (rg2_5 hr (by omega)) ?_
          refine am_iload fx dX2_rankAgainst_56 rfl ?_
          refine am_iald  fx dX2_rankAgainst_58 (sg2_5 hr (by omega)) rfl (by omega) (by decide) rfl ?_
          refine am_icmp_ne fx 65 dX2_rankAgainst_59 (by decide) (fun c59 => ?_) (fun c59 => ?_)
          · try simp (disch := omega) only [bz_0, Classical.not_not, Int32.not_le, Int32.not_lt, Nat.not_le, Nat.not_lt, nI_leI, nI_ltI, nI_eq, nI_le0, nI_lt0] at c59
            first | refine am_iinc fx dX2_rankAgainst_65 rfl (nI_inc _) (by decide) rfl ?_ | refine am_iinc fx dX2_rankAgainst_65 rfl rfl (by decide) rfl ?_
            refine am_goto fx 5 dX2_rankAgainst_68 (by decide) ?_
            exact ih (Rd - (r + 1)) (by omega) (r + 1) _ rfl (by omega) (by rw [hx]; simp only [rkA]; rw [if_neg (Int32.not_lt.mpr c32), if_neg c59]; rfl)
          · try simp (disch := omega) only [bz_0, Classical.not_not, Int32.not_le, Int32.not_lt, Nat.not_le, Nat.not_lt, nI_leI, nI_ltI, nI_eq, nI_le0, nI_lt0] at c59
            first | refine am_iinc fx dX2_rankAgainst_62 rfl (nI_inc _) (by decide) rfl ?_ | refine am_iinc fx dX2_rankAgainst_62 rfl rfl (by decide) rfl ?_
            first | refine am_iinc fx dX2_rankAgainst_65 rfl (nI_inc _) (by decide) rfl ?_ | refine am_iinc fx dX2_rankAgainst_65 rfl rfl (by decide) rfl ?_
            refine am_goto fx 5 dX2_rankAgainst_68 (by decide) ?_
            exact ih (Rd - (r + 1)) (by omega) (r + 1) _ rfl (by omega) (by rw [hx]; simp only [rkA]; rw [if_neg (Int32.not_lt.mpr c32), if_pos c59]; exact nI_inc _)
        · try simp (disch := omega) only [bz_0, Classical.not_not, Int32.not_le, Int32.not_lt, Nat.not_le, Nat.not_lt, nI_leI, nI_ltI, nI_eq, nI_le0, nI_lt0] at c32
          first | refine am_iinc fx dX2_rankAgainst_35 rfl rfl (by decide) rfl ?_ | refine am_iinc fx dX2_rankAgainst_35 rfl rfl (by decide) rfl ?_
          refine am_goto fx 65 dX2_rankAgainst_38 (by decide) ?_
          first | refine am_iinc fx dX2_rankAgainst_65 rfl (nI_inc _) (by decide) rfl ?_ | refine am_iinc fx dX2_rankAgainst_65 rfl rfl (by decide) rfl ?_
          refine am_goto fx 5 dX2_rankAgainst_68 (by decide) ?_
          exact ih (Rd - (r + 1)) (by omega) (r + 1) _ rfl (by omega) (by rw [hx]; simp only [rkA]; rw [if_pos c32]; exact nI_add _ 2)
  exact lp5 _ 0 _ rfl (by omega) rfl
set_option maxRecDepth 100000 in
set_option maxHeartbeats 4000000 in
theorem ct_X2_rankOf {E : am_E} {μ : am_M} (hb : Bs μ) {q L : Nat} (hr : Rc μ q L) {En Rd : Nat} (ha : Ra μ q En Rd) (s : Nat) (hs : s < 12) : am_Ct E yX2_rankOf cX2_rankOf 4 (some .int) rmX2_rankOf [.ref (q + 1), .int (nI s)] μ (fun v μ' => v = some (.int (nI (rkN (lft μ q) (tkn μ q) Rd s En))) ∧ μ = μ') := by
  refine am_Ct.of (ls := [some (.ref (q + 1)), some (.int (nI s)), none, none]) (by decide) (Nat.le_of_ble_eq_true rfl) rfl (fun C fx hnm => ?_)
  have hE := ha.e
  have hR := ha.r
  have hL := hr.l
  have hq := hr.qq
  refine am_iconst (v := 0) fx dX2_rankOf_0 (by decide) ?_
  refine am_istore_n fx dX2_rankOf_1 (by decide) rfl ?_
  refine am_iconst (v := 0) fx dX2_rankOf_2 (by decide) ?_
  refine am_istore_n fx dX2_rankOf_3 (by decide) rfl ?_
  have lp4 : ∀ (mz : Nat) (o : Nat) (x : Int32), En - o = mz → o ≤ En → x = nI (rkN (lft μ q) (tkn μ q) Rd s o) → am_W E C (am_MQ E C (fun v μ' => v = some (.int (nI (rkN (lft μ q) (tkn μ q) Rd s En))) ∧ μ = μ') (rmX2_rankOf).cells (rmX2_rankOf).slots) μ 0 0 4 [some (.ref (q + 1)), some (.int (nI s)), some (.int x), some (.int (nI o))] [] := by
    intro mz
    induction mz using Nat.strongRecOn with
    | ind mz ih =>
      intro o x hn ho hx
      refine am_iload_n fx dX2_rankOf_4 rfl ?_
      refine am_aload_n fx dX2_rankOf_5 rfl ?_
      refine am_getI fx dX2_rankOf_6 fkX2_66 (by decide) (by decide) rfl (so2 hr) ha.1 ?_
      refine am_icmp_ge fx 40 dX2_rankOf_9 (by decide) (fun c9 => ?_) (fun c9 => ?_)
      · try simp (disch := omega) only [bz_0, Classical.not_not, Int32.not_le, Int32.not_lt, Nat.not_le, Nat.not_lt, nI_leI, nI_ltI, nI_eq, nI_le0, nI_lt0] at c9
        refine am_iload_n fx dX2_rankOf_40 rfl ?_
        exact am_iret fx dX2_rankOf_41 ⟨by rw [hx, show o = En by omega], rfl⟩
      · try simp (disch := omega) only [bz_0, Classical.not_not, Int32.not_le, Int32.not_lt, Nat.not_le, Nat.not_lt, nI_leI, nI_ltI, nI_eq, nI_le0, nI_lt0] at c9
        refine am_iload_n fx dX2_rankOf_12 rfl ?_
        refine am_iload_n fx dX2_rankOf_13 rfl ?_
        refine am_icmp_eq fx 34 dX2_rankOf_14 (by decide) (fun c14 => ?_) (fun c14 => ?_)
        · try simp (disch := omega) only [bz_0, Classical.not_not, Int32.not_le, Int32.not_lt, Nat.not_le, Nat.not_lt, nI_leI, nI_ltI, nI_eq, nI_le0, nI_lt0] at c14
          first | refine am_iinc fx dX2_rankOf_34 rfl (nI_inc _) (by decide) rfl ?_ | refine am_iinc fx dX2_rankOf_34 rfl rfl (by decide) rfl ?_
          refine am_goto fx 4 dX2_rankOf_37 (by decide) ?_
          exact ih (En - (o + 1)) (by omega) (o + 1) _ rfl (by omega) (by rw [hx]; simp only [rkN]; rw [if_neg (fun z => z.1 c14)]; rfl)
        · try simp (disch := omega) only [bz_0, Classical.not_not, Int32.not_le, Int32.not_lt, Nat.not_le, Nat.not_lt, nI_leI, nI_ltI, nI_eq, nI_le0, nI_lt0] at c14
          refine am_aload_n fx dX2_rankOf_17 rfl ?_
          refine am_iload_n fx dX2_rankOf_18 rfl ?_
          refine am_callV fx dX2_rankOf_19 mkX2_85 (ct_X2_isLeftN hb hr ha _ (by assumption)) (so2 hr) ⟨by decide, rfl⟩ rfl (Nat.le_of_ble_eq_true rfl) ⟨by decide, by decide⟩ ⟨Nat.le_of_ble_eq_true rfl, Nat.le_of_ble_eq_true rfl⟩ rfl ?_
          rintro _ _ ⟨rfl, rfl⟩
          refine am_if_eq fx 34 dX2_rankOf_22 (by decide) (fun c22 => ?_) (fun c22 => ?_)
          · try simp (disch := omega) only [bz_0, Classical.not_not, Int32.not_le, Int32.not_lt, Nat.not_le, Nat.not_lt, nI_leI, nI_ltI, nI_eq, nI_le0, nI_lt0] at c22
            first | refine am_iinc fx dX2_rankOf_34 rfl (nI_inc _) (by decide) rfl ?_ | refine am_iinc fx dX2_rankOf_34 rfl rfl (by decide) rfl ?_
            refine am_goto fx 4 dX2_rankOf_37 (by decide) ?_
            exact ih (En - (o + 1)) (by omega) (o + 1) _ rfl (by omega) (by rw [hx]; simp only [rkN]; rw [if_neg (fun z => c22 (by simpa using z.2))]; rfl)
          · try simp (disch := omega) only [bz_0, Classical.not_not, Int32.not_le, Int32.not_lt, Nat.not_le, Nat.not_lt, nI_leI, nI_ltI, nI_eq, nI_le0, nI_lt0] at c22
            refine am_iload_n fx dX2_rankOf_25 rfl ?_
            refine am_aload_n fx dX2_rankOf_26 rfl ?_
            refine am_iload_n fx dX2_rankOf_27 rfl ?_
            refine am_iload_n fx dX2_rankOf_28 rfl ?_
            refine am_callV fx dX2_rankOf_29 mkX2_131 (ct_X2_rankAgainst hb hr ha _ _ hs (by omega)) (so2 hr) ⟨by decide, rfl⟩ rfl (Nat.le_of_ble_eq_true rfl) ⟨by decide, by decide⟩ ⟨Nat.le_of_ble_eq_true rfl, Nat.le_of_ble_eq_true rfl⟩ rfl ?_
            rintro _ _ ⟨rfl, rfl⟩
            refine am_iadd fx dX2_rankOf_32 ?_
            refine am_istore_n fx dX2_rankOf_33 (by decide) rfl ?_
            first | refine am_iinc fx dX2_rankOf_34 rfl (nI_inc _) (by decide) rfl ?_ | refine am_iinc fx dX2_rankOf_34 rfl rfl (by decide) rfl ?_
            refine am_goto fx 4 dX2_rankOf_37 (by decide) ?_
            exact ih (En - (o + 1)) (by omega) (o + 1) _ rfl (by omega) (by rw [hx]; simp only [rkN]; rw [if_pos ⟨c14, by simpa using c22⟩]; exact nI_add _ _)
  exact lp4 _ 0 _ rfl (by omega) rfl
def sm64 (t : Nat → Int32) : Nat → Int64
  | 0 => 0
  | r + 1 => sm64 t r + (t r).toInt64
set_option maxRecDepth 100000 in
set_option maxHeartbeats 4000000 in
theorem ct_X2_sumOfFirst {E : am_E} {μ : am_M} (hb : Bs μ) {q L : Nat} (hr : Rc μ q L) {En Rd : Nat} (ha : Ra μ q En Rd) (s n : Nat) (hs : s < En) (hn : nI n ≤ mm_I μ (q + 16) s) (hn24 : n ≤ 24) : am_Ct E yX2_sumOfFirst cX2_sumOfFirst 6 (some .long) rmX2_sumOfFirst [.ref (q + 1), .int (nI s), .int (nI n)] μ (fun v μ' => v = some (.long (sm64 (tkn μ q s) n)) ∧ μ = μ') := by
  refine am_Ct.of (ls := [some (.ref (q + 1)), some (.int (nI s)), some (.int (nI n)), none, none, none]) (by decide) (Nat.le_of_ble_eq_true rfl) rfl (fun C fx hnm => ?_)
  have hE := ha.e
  have hR := ha.r
  have hL := hr.l
  have hq := hr.qq
  refine am_lconst (v := 0) fx dX2_sumOfFirst_0 (by decide) ?_
  refine am_lstore_n fx dX2_sumOfFirst_1 (by decide) rfl ?_
  refine am_iconst (v := 0) fx dX2_sumOfFirst_2 (by decide) ?_
  refine am_istore fx dX2_sumOfFirst_3 (by decide) rfl ?_
  have lp5 : ∀ (mz : Nat) (r : Nat) (x : Int64), n - r = mz → r ≤ n → x = sm64 (tkn μ q s) r → am_W E C (am_MQ E C (fun v μ' => v = some (.long (sm64 (tkn μ q s) n)) ∧ μ = μ') (rmX2_sumOfFirst).cells (rmX2_sumOfFirst).slots) μ 0 0 5 [some (.ref (q + 1)), some (.int (nI s)), some (.int (nI n)), some (.long x), none, some (.int (nI r))] [] := by
    intro mz
    induction mz using Nat.strongRecOn with
    | ind mz ih =>
      intro r x hz hr1 hx
      refine am_iload fx dX2_sumOfFirst_5 rfl ?_
      refine am_iload_n fx dX2_sumOfFirst_7 rfl ?_
      refine am_icmp_ge fx 49 dX2_sumOfFirst_8 (by decide) (fun c8 => ?_) (fun c8 => ?_)
      · try simp (disch := omega) only [bz_0, Classical.not_not, Int32.not_le, Int32.not_lt, Nat.not_le, Nat.not_lt, nI_leI, nI_ltI, nI_eq, nI_le0, nI_lt0] at c8
        refine am_lload_n fx dX2_sumOfFirst_49 rfl ?_
        exact am_lret fx dX2_sumOfFirst_50 ⟨by rw [hx, show r = n by omega], rfl⟩
      · try simp (disch := omega) only [bz_0, Classical.not_not, Int32.not_le, Int32.not_lt, Nat.not_le, Nat.not_lt, nI_leI, nI_ltI, nI_eq, nI_le0, nI_lt0] at c8
        refine am_aload_n fx dX2_sumOfFirst_11 rfl ?_
        refine am_iload_n fx dX2_sumOfFirst_12 rfl ?_
        refine am_callV fx dX2_sumOfFirst_13 mkX2_137 (ct_X2_isEntered hb hr ha _) (so2 hr) ⟨by decide, rfl⟩ rfl (Nat.le_of_ble_eq_true rfl) ⟨by decide, by decide⟩ ⟨Nat.le_of_ble_eq_true rfl, Nat.le_of_ble_eq_true rfl⟩ rfl ?_
        rintro _ _ ⟨rfl, rfl⟩
        refine am_if_eq fx 49 dX2_sumOfFirst_16 (by decide) (fun c16 => ?_) (fun c16 => ?_)
        · try simp (disch := omega) only [bz_0, Classical.not_not, Int32.not_le, Int32.not_lt, Nat.not_le, Nat.not_lt, nI_leI, nI_ltI, nI_eq, nI_le0, nI_lt0] at c16
          exact absurd ⟨nI_pos' (by omega), hs⟩ c16
        · try simp (disch := omega) only [bz_0, Classical.not_not, Int32.not_le, Int32.not_lt, Nat.not_le, Nat.not_lt, nI_leI, nI_ltI, nI_eq, nI_le0, nI_lt0] at c16
          refine am_iload fx dX2_sumOfFirst_19 rfl ?_
          refine am_aload_n fx dX2_sumOfFirst_21 rfl ?_
          refine am_getR fx dX2_sumOfFirst_22 fkX2_20 (by decide) (by decide) rfl (so2 hr) (rf2_7 hr) ?_
          refine am_iload_n fx dX2_sumOfFirst_25 rfl ?_
          refine am_iald  fx dX2_sumOfFirst_26 (sa2_7 hr) rfl (by omega) (by decide) rfl ?_
          refine am_icmp_ge fx 49 dX2_sumOfFirst_27 (by decide) (fun c27 => ?_) (fun c27 => ?_)
          · skip
            exact absurd (Int32.lt_of_lt_of_le (nI_lt (show r < n by omega) (by omega)) hn) (Int32.not_lt.mpr c27)
          · skip
            refine am_lload_n fx dX2_sumOfFirst_30 rfl ?_
            refine am_aload_n fx dX2_sumOfFirst_31 rfl ?_
            refine am_getR fx dX2_sumOfFirst_32 fkX2_11 (by decide) (by decide) rfl (so2 hr) (rf2_5 hr) ?_
            refine am_iload_n fx dX2_sumOfFirst_35 rfl ?_
            refine am_aald  fx dX2_sumOfFirst_36 (sa2_5 hr) rfl (by omega) (by decide) (rg2_5 hr (by omega)) ?_
            refine am_iload fx dX2_sumOfFirst_37 rfl ?_
            refine am_iald  fx dX2_sumOfFirst_39 (sg2_5 hr (by omega)) rfl (by omega) (by decide) rfl ?_
            refine am_i2l fx dX2_sumOfFirst_40 rfl ?_
            refine am_ladd fx dX2_sumOfFirst_41 ?_
            refine am_lstore_n fx dX2_sumOfFirst_42 (by decide) rfl ?_
            first | refine am_iinc fx dX2_sumOfFirst_43 rfl (nI_inc _) (by decide) rfl ?_ | refine am_iinc fx dX2_sumOfFirst_43 rfl rfl (by decide) rfl ?_
            refine am_goto fx 5 dX2_sumOfFirst_46 (by decide) ?_
            exact ih (n - (r + 1)) (by omega) (r + 1) _ rfl (by omega) (by rw [hx]; rfl)
  exact lp5 _ 0 _ rfl (by omega) rfl
/-! odds of one over another, by their costs in the first m rounds -/
def filv (b : Nat → Bool) (v : Nat → Int32) (g : Nat → Int32) : Nat → Nat → Int32
  | 0 => g
  | k + 1 => if b k = true then upd (filv b v g k) (cnt b k) (v k) else filv b v g k
theorem filv_any (b : Nat → Bool) (v g g' : Nat → Int32) : ∀ (n j : Nat), j < cnt b n → filv b v g n j = filv b v g' n j
  | 0, j, h => by simp [cnt] at h
  | n + 1, j, h => by
    simp only [cnt] at h
    simp only [filv]
    by_cases hb : b n = true
    · simp only [if_pos hb] at h ⊢
      simp only [upd]
      by_cases hj : j = cnt b n
      · simp [hj]
      · rw [if_neg hj, if_neg hj]
        exact filv_any b v g g' n j (by omega)
    · simp only [if_neg hb] at h ⊢
      exact filv_any b v g g' n j (by omega)
theorem wts_congr {g g' : Nat → Int32} {k n : Nat} (hk : g k = g' k) : ∀ m, m ≤ n → (∀ j, j < n → g j = g' j) → wts g k m = wts g' k m
  | 0, _, _ => rfl
  | m + 1, h, q => by
    simp only [wts, wte]
    rw [wts_congr hk m (by omega) q, hk, q m (by omega)]
theorem odw_congr {kd : Int32} {g g' : Nat → Int32} {n k : Nat} (hk : k < n) (q : ∀ j, j < n → g j = g' j) : odw kd g n k = odw kd g' n k := by
  unfold odw wtN
  rw [wts_congr (q k hk) n (Nat.le_refl n) q]
theorem mst_congr {kd : Int32} {g g' : Nat → Int32} {n : Nat} (q : ∀ j, j < n → g j = g' j) : ∀ k, k ≤ n → mst kd g n k = mst kd g' n k
  | 0, _ => rfl
  | k + 1, h => by simp only [mst]; rw [mst_congr q k (by omega), odw_congr (by omega) q]
theorem rch_congr {kd : Int32} {g g' f f' : Nat → Int32} {n : Nat} (q : ∀ j, j < n → g j = g' j) (qf : ∀ j, j < n → f j = f' j) : ∀ k, k ≤ n → rch kd g f n k = rch kd g' f' n k
  | 0, _ => rfl
  | k + 1, h => by simp only [rch]; rw [rch_congr q qf k (by omega), odw_congr (by omega) q, qf k (by omega)]
theorem wy_congr {kd : Int32} {g g' : Nat → Int32} {n : Nat} (q : ∀ j, j < n → g j = g' j) : ∀ k, k ≤ n → wy kd g n k = wy kd g' n k
  | 0, _ => rfl
  | k + 1, h => by simp only [wy]; rw [wy_congr q k (by omega), odw_congr (by omega) q, mst_congr q (k + 1) h]
theorem upN_congr {kd : Int32} {g g' f f' : Nat → Int32} {n : Nat} (q : ∀ j, j < n → g j = g' j) (qf : ∀ j, j < n → f j = f' j) : upN kd g f n = upN kd g' f' n := by
  unfold upN
  rw [wy_congr q n (Nat.le_refl n), rch_congr q qf n (Nat.le_refl n), mst_congr q n (Nat.le_refl n)]
abbrev neB (ca cb : Nat → Int32) : Nat → Bool := fun r => decide (¬ ca r = cb r)
def gpz (ca cb : Nat → Int32) (m : Nat) : Nat → Int32 := filv (neB ca cb) (fun r => ab (ca r - cb r)) (fun _ => 0) m
def fpz (ca cb : Nat → Int32) (m : Nat) : Nat → Int32 := filv (neB ca cb) (fun r => bz (ca r < cb r)) (fun _ => 0) m
def odN (ca cb : Nat → Int32) (m : Nat) : Nat := cnt (neB ca cb) m
def odU (kd : Int32) (ca cb : Nat → Int32) (m : Nat) : Int64 := upN kd (gpz ca cb m) (fpz ca cb m) (odN ca cb m)
/-- the cells that odds are counted in -/
def Sod (a : Nat) : Prop := a = 21 ∨ a = 22 ∨ a = 23 ∨ a = 24
theorem Sod.d (a : Nat) : 57 ≤ a → ¬ Sod a := by unfold Sod; omega
theorem nI_min {a b : Nat} (ha : a < 2 ^ 31) (hb : b < 2 ^ 31) : (if nI b < nI a then nI b else nI a) = nI (min a b) := by
  by_cases h : b < a
  · rw [if_pos (nI_lt h ha), Nat.min_eq_right (by omega)]
  · rw [if_neg (by rw [nI_ltI hb ha]; exact h), Nat.min_eq_left (by omega)]
theorem odd_ne {ν : am_M} {c : Nat} {x y : Int32} : Sm Sod ν (mm_sI (mm_sI (mm_sI ν 22 c x) 23 c y) 21 3 (nI (c + 1))) := (Sm.sI ν (Or.inr (Or.inl rfl))).tr ((Sm.sI _ (Or.inr (Or.inr (Or.inl rfl)))).tr (Sm.sI _ (Or.inl rfl)))
theorem odd_22 {ν : am_M} {c j : Nat} {x y z : Int32} : mm_I (mm_sI (mm_sI (mm_sI ν 22 c x) 23 c y) 21 3 z) 22 j = upd (mm_I ν 22) c x j := by
  rw [mI_ne (Or.inl (by decide)), mI_ne (Or.inl (by decide)), mI_sI]
  unfold upd
  by_cases h : j = c
  · rw [if_pos ⟨rfl, h⟩, if_pos h]
  · rw [if_neg (fun q => h q.2), if_neg h]
theorem odd_23 {ν : am_M} {c j : Nat} {x y z : Int32} : mm_I (mm_sI (mm_sI (mm_sI ν 22 c x) 23 c y) 21 3 z) 23 j = upd (mm_I ν 23) c y j := by
  rw [mI_ne (Or.inl (by decide)), mI_sI]
  unfold upd
  by_cases h : j = c
  · rw [if_pos ⟨rfl, h⟩, if_pos h]
  · rw [if_neg (fun q => h q.2), if_neg h]
    exact mI_ne (Or.inl (by decide))
theorem odd_step {ν ν' : am_M} {b : Nat → Bool} {ca cb : Nat → Int32} {r : Nat} (hbb : b = neB ca cb) (h3 : mm_I ν 21 3 = nI (cnt b r)) (hgf : ∀ j, j < cnt b r → mm_I ν 22 j = filv b (fun r => ab (ca r - cb r)) (fun _ => 0) r j ∧ mm_I ν 23 j = filv b (fun r => bz (ca r < cb r)) (fun _ => 0) r j) (e : ν' = if ca r = cb r then ν else mm_sI (mm_sI (mm_sI ν 22 (cnt b r) (ab (ca r - cb r))) 23 (cnt b r) (bz (ca r < cb r))) 21 3 (nI (cnt b r + 1))) :
    Sm Sod ν ν' ∧ mm_I ν' 21 3 = nI (cnt b (r + 1)) ∧ (∀ j, j < cnt b (r + 1) → mm_I ν' 22 j = filv b (fun r => ab (ca r - cb r)) (fun _ => 0) (r + 1) j ∧ mm_I ν' 23 j = filv b (fun r => bz (ca r < cb r)) (fun _ => 0) (r + 1) j) := by
  by_cases h : ca r = cb r
  · have hb : ¬ b r = true := by rw [hbb]; simp [h]
    rw [if_pos h] at e
    subst e
    simp only [cnt, filv, if_neg hb, Nat.add_zero]
    exact ⟨Sm.rf _ _, h3, hgf⟩
  · have hb : b r = true := by rw [hbb]; simp [h]
    rw [if_neg h] at e
    have hc : cnt b (r + 1) = cnt b r + 1 := by simp only [cnt, if_pos hb]
    rw [hc]
    subst e
    refine ⟨odd_ne, mI_same _ _ _ _, fun j hj => ?_⟩
    rw [odd_22, odd_23]
    simp only [filv, if_pos hb, upd]
    by_cases e : j = cnt b r
    · rw [if_pos e, if_pos e, if_pos e, if_pos e]; exact ⟨rfl, rfl⟩
    · rw [if_neg e, if_neg e, if_neg e, if_neg e]; exact hgf j (by omega)
set_option maxRecDepth 100000 in
set_option maxHeartbeats 4000000 in
theorem ct_X2_countOdds {E : am_E} {μ : am_M} (hb : Bs μ) {q L : Nat} (hr : Rc μ q L) {En Rd : Nat} (ha : Ra μ q En Rd) (a b ra rb : Nat) (h1 : a < En) (h2 : b < En) (e1 : mm_I μ (q + 16) a = nI ra) (e2 : mm_I μ (q + 16) b = nI rb) (hra : ra ≤ 24) (hrb : rb ≤ 24) : am_Ct E yX2_countOdds cX2_countOdds 5 none rmX2_countOdds [.ref (q + 1), .int (nI a), .int (nI b)] μ (fun v μ' => v = none ∧ Sm Sod μ μ' ∧ mm_L μ' 21 5 = pw (odN (tkn μ q a) (tkn μ q b) (min Rd (min ra rb))) ∧ mm_L μ' 21 4 = odU (mm_I μ q 0) (tkn μ q a) (tkn μ q b) (min Rd (min ra rb))) := by
  refine am_Ct.of (ls := [some (.ref (q + 1)), some (.int (nI a)), some (.int (nI b)), none, none]) (by decide) (Nat.le_of_ble_eq_true rfl) rfl (fun C fx hnm => ?_)
  have hE := ha.e
  have hR := ha.r
  have hL := hr.l
  have hq := hr.qq
  have hm : min Rd (min ra rb) ≤ 24 := by omega
  refine am_aload_n fx dX2_countOdds_0 rfl ?_
  refine am_getR fx dX2_countOdds_1 fkX2_46 (by decide) (by decide) rfl (so2 hr) (rf2_1 hr) ?_
  refine am_callV fx dX2_countOdds_4 mkX2_134 (ct_X0_clear hb) (so0 hb) ⟨by decide, rfl⟩ rfl (Nat.le_of_ble_eq_true rfl) ⟨by decide, by decide⟩ ⟨Nat.le_of_ble_eq_true rfl, Nat.le_of_ble_eq_true rfl⟩ rfl ?_
  rintro _ _ ⟨rfl, rfl⟩
  have hb0 : Bs (mm_sI μ 21 3 0) := hb.fr (Fr.sI _ _ _ _)
  have hr0 : Rc (mm_sI μ 21 3 0) q L := hr.fr (Fr.sI _ _ _ _)
  have hd0 : ∀ x k, 57 ≤ x → mm_I (mm_sI μ 21 3 0) x k = mm_I μ x k := fun x k hx => mI_ne (Or.inl (by omega))
  have ha0 : Ra (mm_sI μ 21 3 0) q En Rd := ⟨by rw [hd0 _ _ (by omega)]; exact ha.1, by rw [hd0 _ _ (by omega)]; exact ha.2.1, hE, hR⟩
  refine am_aload_n fx dX2_countOdds_7 rfl ?_
  refine am_iload_n fx dX2_countOdds_8 rfl ?_
  refine am_callV fx dX2_countOdds_9 mkX2_137 (ct_X2_isEntered hb0 hr0 ha0 _) (so2 hr0) ⟨by decide, rfl⟩ rfl (Nat.le_of_ble_eq_true rfl) ⟨by decide, by decide⟩ ⟨Nat.le_of_ble_eq_true rfl, Nat.le_of_ble_eq_true rfl⟩ rfl ?_
  rintro _ _ ⟨rfl, rfl⟩
  refine am_if_eq fx 86 dX2_countOdds_12 (by decide) (fun c12 => ?_) (fun c12 => ?_)
  · try simp (disch := omega) only [bz_0, Classical.not_not, Int32.not_le, Int32.not_lt, Nat.not_le, Nat.not_lt, nI_leI, nI_ltI, nI_eq, nI_le0, nI_lt0] at c12
    exact absurd ⟨nI_pos' (by omega), h1⟩ c12
  · try simp (disch := omega) only [bz_0, Classical.not_not, Int32.not_le, Int32.not_lt, Nat.not_le, Nat.not_lt, nI_leI, nI_ltI, nI_eq, nI_le0, nI_lt0] at c12
    refine am_aload_n fx dX2_countOdds_15 rfl ?_
    refine am_iload_n fx dX2_countOdds_16 rfl ?_
    refine am_callV fx dX2_countOdds_17 mkX2_137 (ct_X2_isEntered hb0 hr0 ha0 _) (so2 hr0) ⟨by decide, rfl⟩ rfl (Nat.le_of_ble_eq_true rfl) ⟨by decide, by decide⟩ ⟨Nat.le_of_ble_eq_true rfl, Nat.le_of_ble_eq_true rfl⟩ rfl ?_
    rintro _ _ ⟨rfl, rfl⟩
    refine am_if_eq fx 86 dX2_countOdds_20 (by decide) (fun c20 => ?_) (fun c20 => ?_)
    · try simp (disch := omega) only [bz_0, Classical.not_not, Int32.not_le, Int32.not_lt, Nat.not_le, Nat.not_lt, nI_leI, nI_ltI, nI_eq, nI_le0, nI_lt0] at c20
      exact absurd ⟨nI_pos' (by omega), h2⟩ c20
    · try simp (disch := omega) only [bz_0, Classical.not_not, Int32.not_le, Int32.not_lt, Nat.not_le, Nat.not_lt, nI_leI, nI_ltI, nI_eq, nI_le0, nI_lt0] at c20
      refine am_aload_n fx dX2_countOdds_23 rfl ?_
      refine am_getI fx dX2_countOdds_24 fkX2_33 (by decide) (by decide) rfl (so2 hr0) ha0.2.1 ?_
      refine am_aload_n fx dX2_countOdds_27 rfl ?_
      refine am_getR fx dX2_countOdds_28 fkX2_20 (by decide) (by decide) rfl (so2 hr0) (rf2_7 hr0) ?_
      refine am_iload_n fx dX2_countOdds_31 rfl ?_
      refine am_iald  fx dX2_countOdds_32 (sa2_7 hr0) rfl (by omega) (by decide) ((hd0 _ _ (by omega)).trans e1) ?_
      refine am_aload_n fx dX2_countOdds_33 rfl ?_
      refine am_getR fx dX2_countOdds_34 fkX2_20 (by decide) (by decide) rfl (so2 hr0) (rf2_7 hr0) ?_
      refine am_iload_n fx dX2_countOdds_37 rfl ?_
      refine am_iald  fx dX2_countOdds_38 (sa2_7 hr0) rfl (by omega) (by decide) ((hd0 _ _ (by omega)).trans e2) ?_
      refine am_mmin fx dX2_countOdds_39 moX2_140 kw_smin knJ9 kw_cmin ⟨by decide, Nat.le_of_ble_eq_true rfl, Nat.le_of_ble_eq_true rfl, Nat.le_of_ble_eq_true rfl⟩ (nI_min (by omega) (by omega)) ?_
      refine am_mmin fx dX2_countOdds_42 moX2_140 kw_smin knJ9 kw_cmin ⟨by decide, Nat.le_of_ble_eq_true rfl, Nat.le_of_ble_eq_true rfl, Nat.le_of_ble_eq_true rfl⟩ (nI_min (by omega) (by omega)) ?_
      refine am_istore_n fx dX2_countOdds_45 (by decide) rfl ?_
      refine am_iconst (v := 0) fx dX2_countOdds_46 (by decide) ?_
      refine am_istore fx dX2_countOdds_47 (by decide) rfl ?_
      have lp49 : ∀ (mz : Nat) (r : Nat) (ν : am_M), min Rd (min ra rb) - r = mz → r ≤ min Rd (min ra rb) → Sm Sod μ ν → mm_I ν 21 3 = nI (cnt (neB (tkn μ q a) (tkn μ q b)) r) → (∀ j, j < cnt (neB (tkn μ q a) (tkn μ q b)) r → mm_I ν 22 j = filv (neB (tkn μ q a) (tkn μ q b)) (fun r => ab ((tkn μ q a) r - (tkn μ q b) r)) (fun _ => 0) r j ∧ mm_I ν 23 j = filv (neB (tkn μ q a) (tkn μ q b)) (fun r => bz ((tkn μ q a) r < (tkn μ q b) r)) (fun _ => 0) r j) → am_W E C (am_MQ E C (fun v μ' => v = none ∧ Sm Sod μ μ' ∧ mm_L μ' 21 5 = pw (odN (tkn μ q a) (tkn μ q b) (min Rd (min ra rb))) ∧ mm_L μ' 21 4 = odU (mm_I μ q 0) (tkn μ q a) (tkn μ q b) (min Rd (min ra rb))) (rmX2_countOdds).cells (rmX2_countOdds).slots) ν 0 0 49 [some (.ref (q + 1)), some (.int (nI a)), some (.int (nI b)), some (.int (nI (min Rd (min ra rb)))), some (.int (nI r))] [] := by
        intro mz
        induction mz using Nat.strongRecOn with
        | ind mz ih =>
          intro r ν hz hr1 hS h3 hgf
          have hb2 : Bs ν := hb.fr hS.1
          have hr2 : Rc ν q L := hr.fr hS.1
          have hc := cnt_le (neB (tkn μ q a) (tkn μ q b)) r
          have hd : ∀ x k, 57 ≤ x → mm_I ν x k = mm_I μ x k := fun x k hx => hS.2.1 x k (Sod.d x hx)
          refine am_iload fx dX2_countOdds_49 rfl ?_
          refine am_iload_n fx dX2_countOdds_51 rfl ?_
          refine am_icmp_ge fx 86 dX2_countOdds_52 (by decide) (fun c52 => ?_) (fun c52 => ?_)
          · try simp (disch := omega) only [bz_0, Classical.not_not, Int32.not_le, Int32.not_lt, Nat.not_le, Nat.not_lt, nI_leI, nI_ltI, nI_eq, nI_le0, nI_lt0] at c52
            refine am_aload_n fx dX2_countOdds_86 rfl ?_
            refine am_getR fx dX2_countOdds_87 fkX2_46 (by decide) (by decide) rfl (so2 hr2) (rf2_1 hr2) ?_
            refine am_aload_n fx dX2_countOdds_90 rfl ?_
            refine am_getR fx dX2_countOdds_91 fkX2_50 (by decide) (by decide) rfl (so2 hr2) (rf2_2 hr2) ?_
            refine am_getI fx dX2_countOdds_94 fkX2_148 (by decide) (by decide) rfl (so3 hr2) (hd _ _ (by omega)) ?_
            refine am_callV fx dX2_countOdds_97 mkX2_151 (ct_X0_count hb2 h3 (by omega) _) (so0 hb2) ⟨by decide, rfl⟩ rfl (Nat.le_of_ble_eq_true rfl) ⟨by decide, by decide⟩ ⟨Nat.le_of_ble_eq_true rfl, Nat.le_of_ble_eq_true rfl⟩ rfl ?_
            rintro _ _ ⟨rfl, h9, rfl⟩
            exact am_vret fx dX2_countOdds_100 ⟨rfl, hS.tr (Sm.mo ν (Or.inl rfl) (Or.inr (Or.inr (Or.inr rfl)))), by rw [mL_mo, if_neg (by decide), if_pos ⟨rfl, rfl⟩, show r = min Rd (min ra rb) by omega]; rfl, by rw [mL_mo, if_neg (by decide), if_neg (by decide), if_pos ⟨rfl, rfl⟩, odU, odN, ← show r = min Rd (min ra rb) by omega]; exact upN_congr (fun j hj => (hgf j hj).1) (fun j hj => (hgf j hj).2)⟩
          · try simp (disch := omega) only [bz_0, Classical.not_not, Int32.not_le, Int32.not_lt, Nat.not_le, Nat.not_lt, nI_leI, nI_ltI, nI_eq, nI_le0, nI_lt0] at c52
            refine am_aload_n fx dX2_countOdds_55 rfl ?_
            refine am_getR fx dX2_countOdds_56 fkX2_46 (by decide) (by decide) rfl (so2 hr2) (rf2_1 hr2) ?_
            refine am_aload_n fx dX2_countOdds_59 rfl ?_
            refine am_getR fx dX2_countOdds_60 fkX2_11 (by decide) (by decide) rfl (so2 hr2) (rf2_5 hr2) ?_
            refine am_iload_n fx dX2_countOdds_63 rfl ?_
            refine am_aald  fx dX2_countOdds_64 (sa2_5 hr2) rfl (by omega) (by decide) (rg2_5 hr2 (by omega)) ?_
            refine am_iload fx dX2_countOdds_65 rfl ?_
            refine am_iald  fx dX2_countOdds_67 (sg2_5 hr2 (by omega)) rfl (by omega) (by decide) (hd _ _ (by omega)) ?_
            refine am_aload_n fx dX2_countOdds_68 rfl ?_
            refine am_getR fx dX2_countOdds_69 fkX2_11 (by decide) (by decide) rfl (so2 hr2) (rf2_5 hr2) ?_
            refine am_iload_n fx dX2_countOdds_72 rfl ?_
            refine am_aald  fx dX2_countOdds_73 (sa2_5 hr2) rfl (by omega) (by decide) (rg2_5 hr2 (by omega)) ?_
            refine am_iload fx dX2_countOdds_74 rfl ?_
            refine am_iald  fx dX2_countOdds_76 (sg2_5 hr2 (by omega)) rfl (by omega) (by decide) (hd _ _ (by omega)) ?_
            refine am_callV fx dX2_countOdds_77 mkX2_145 (ct_X0_addRound hb2 h3 (by omega) _ _) (so0 hb2) ⟨by decide, rfl⟩ rfl (Nat.le_of_ble_eq_true rfl) ⟨by decide, by decide⟩ ⟨Nat.le_of_ble_eq_true rfl, Nat.le_of_ble_eq_true rfl⟩ rfl ?_
            rintro _ ν2 ⟨rfl, hν2⟩
            obtain ⟨hS2, h32, hgf2⟩ := odd_step (b := neB (tkn μ q a) (tkn μ q b)) (ca := (tkn μ q a)) (cb := (tkn μ q b)) rfl h3 hgf hν2
            first | refine am_iinc fx dX2_countOdds_80 rfl (nI_inc _) (by decide) rfl ?_ | refine am_iinc fx dX2_countOdds_80 rfl rfl (by decide) rfl ?_
            refine am_goto fx 49 dX2_countOdds_83 (by decide) ?_
            exact ih (min Rd (min ra rb) - (r + 1)) (by omega) (r + 1) _ rfl (by omega) (hS.tr hS2) h32 hgf2
      exact lp49 _ 0 _ rfl (by omega) (Sm.sI μ (Or.inl rfl)) (mI_same _ _ _ _) (fun j hj => by simp [cnt] at hj)
