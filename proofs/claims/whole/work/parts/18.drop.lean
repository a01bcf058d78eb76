theorem nI_sub1 {n : Nat} (h : 0 < n) : nI n - 1 = nI (n - 1) := nI_pred1 h
set_option maxRecDepth 100000 in
set_option maxHeartbeats 4000000 in
theorem ct_X2_leader {E : am_E} {μ : am_M} (hb : Bs μ) {q L : Nat} (hr : Rc μ q L) {En Rd : Nat} (ha : Ra μ q En Rd) : am_Ct E yX2_leader cX2_leader 1 (some .int) rmX2_leader [.ref (q + 1)] μ (fun v μ' => ∃ A : List Nat, v = some (.int (enO (-1) A.head?)) ∧ Sm (Sar q) μ μ' ∧ A.Pairwise (lexR (rkF μ q Rd En)) ∧ (∀ x, x ∈ A ↔ x < En ∧ mm_I μ (q + 15) x = 0) ∧ A.length ≤ En) := by
  refine am_Ct.of (ls := [some (.ref (q + 1))]) (by decide) (Nat.le_of_ble_eq_true rfl) rfl (fun C fx hnm => ?_)
  have hE := ha.e
  have hR := ha.r
  have hL := hr.l
  have hq := hr.qq
  refine am_aload_n fx dX2_leader_0 rfl ?_
  refine am_callV fx dX2_leader_1 mkX2_109 (ct_X2_arrange hb hr ha) (so2 hr) ⟨by decide, rfl⟩ rfl (Nat.le_of_ble_eq_true rfl) ⟨by decide, by decide⟩ ⟨Nat.le_of_ble_eq_true rfl, Nat.le_of_ble_eq_true rfl⟩ rfl ?_
  rintro _ ν ⟨A, rfl, hS, hP, hM, hl, hG⟩
  have hb2 : Bs ν := hb.fr hS.1
  have hr2 : Rc ν q L := hr.fr hS.1
  refine am_if_ne fx 11 dX2_leader_4 (by decide) (fun c4 => ?_) (fun c4 => ?_)
  · skip
    have hne : A ≠ [] := fun e => c4 (by rw [e]; rfl)
    obtain ⟨x, B, rfl⟩ : ∃ x B, A = x :: B := by
      cases A with
      | nil => exact absurd rfl hne
      | cons x B => exact ⟨x, B, rfl⟩
    refine am_aload_n fx dX2_leader_11 rfl ?_
    refine am_getR fx dX2_leader_12 fkX2_23 (by decide) (by decide) rfl (so2 hr2) (rf2_8 hr2) ?_
    refine am_iconst (v := 0) fx dX2_leader_15 (by decide) ?_
    refine am_iald (j := 0) fx dX2_leader_16 (sa2_8 hr2) rfl (by omega) (by decide) (hG 0 x rfl) ?_
    exact am_iret fx dX2_leader_17 ⟨x :: B, rfl, hS, hP, hM, hl⟩
  · skip
    have hne : A = [] := by
      have h9 : nI A.length = nI 0 := c4
      rw [nI_eq (by omega) (by omega)] at h9
      exact List.length_eq_zero_iff.mp h9
    refine am_iconst (v := (-1)) fx dX2_leader_7 (by decide) ?_
    refine am_goto fx 17 dX2_leader_8 (by decide) ?_
    exact am_iret fx dX2_leader_17 ⟨A, by rw [hne]; rfl, hS, hP, hM, hl⟩
/-- who drops out, one behind another -/
def dropL (bad : Nat → Bool) (least : Nat) (rd : Int32) : List Nat → (Nat → Int32) × Nat → (Nat → Int32) × Nat
  | [], st => st
  | x :: l, st => if least < st.2 ∧ bad x = true then dropL bad least rd l (upd st.1 x rd, st.2 - 1) else dropL bad least rd l st
theorem dropL_stop {bad : Nat → Bool} {least : Nat} {rd : Int32} : ∀ {l : List Nat} {st : (Nat → Int32) × Nat}, st.2 ≤ least → dropL bad least rd l st = st
  | [], _, _ => rfl
  | x :: l, st, h => by
    simp only [dropL]
    rw [if_neg (by omega)]
    exact dropL_stop h
def todo (A : List Nat) (p : Nat) : List Nat := ((A.take (p + 1)).drop 1).reverse
theorem todo_s {A : List Nat} {p x : Nat} (h : A[p + 1]? = some x) : todo A (p + 1) = x :: todo A p := by
  unfold todo
  have hl := (List.getElem?_eq_some_iff.mp h).1
  rw [List.take_add_one, h]
  rw [List.drop_append_of_le_length (by simp; omega)]
  simp
theorem todo_0 (A : List Nat) : todo A 0 = [] := by
  unfold todo
  cases A <;> simp
def Sdw (q a : Nat) : Prop := a = q + 1 ∨ a = q + 15 ∨ a = q + 17 ∨ a = q + 18 ∨ Sod a
theorem Sdw.ar {q a : Nat} (h : Sar q a) : Sdw q a := by unfold Sar at h; unfold Sdw; rcases h with h | h <;> simp [h]
theorem Sdw.od {q a : Nat} (h : Sod a) : Sdw q a := Or.inr (Or.inr (Or.inr (Or.inr h)))
abbrev badF (μ : am_M) (q Rd ld : Nat) : Nat → Bool := fun x => decide (¬ ((mm_I μ q 2).toInt64 * pw (odN (tkn μ q ld) (tkn μ q x) Rd) < odU (mm_I μ q 0) (tkn μ q ld) (tkn μ q x) Rd * (mm_I μ q 3).toInt64))
theorem srt_ne {rk : Nat → Nat} {A : List Nat} (h : A.Pairwise (lexR rk)) {i j x y : Nat} (hi : A[i]? = some x) (hj : A[j]? = some y) (hij : i < j) : x ≠ y := by
  rw [List.pairwise_iff_getElem] at h
  obtain ⟨a1, a2⟩ := List.getElem?_eq_some_iff.mp hi
  obtain ⟨b1, b2⟩ := List.getElem?_eq_some_iff.mp hj
  have := h i j a1 b1 hij
  rw [a2, b2] at this
  intro e
  rw [e] at this
  exact lexR.irr this
set_option maxRecDepth 100000 in
set_option maxHeartbeats 4000000 in
theorem ct_X2_dropWorse {E : am_E} {μ : am_M} (hb : Bs μ) {q L : Nat} (hr : Rc μ q L) {En Rd : Nat} (ha : Ra μ q En Rd) {rem least : Nat} (hrem : mm_I μ (q + 1) 10 = nI rem) (hr12 : rem ≤ 12) (hls : mm_I μ q 4 = nI least) (hl12 : least ≤ 12) (hran : ∀ s, s < En → mm_I μ (q + 15) s = 0 → mm_I μ (q + 16) s = nI Rd) (hex : ∃ s, s < En ∧ mm_I μ (q + 15) s = 0) : am_Ct E yX2_dropWorse cX2_dropWorse 5 none rmX2_dropWorse [.ref (q + 1)] μ (fun v μ' => ∃ (A : List Nat) (ld : Nat), v = none ∧ A.head? = some ld ∧ Sm (Sdw q) μ μ' ∧ A.Pairwise (lexR (rkF μ q Rd En)) ∧ (∀ x, x ∈ A ↔ x < En ∧ mm_I μ (q + 15) x = 0) ∧ A.length ≤ En ∧ mm_I μ' (q + 15) = (dropL (badF μ q Rd ld) least (nI Rd) (todo A (A.length - 1)) (mm_I μ (q + 15), rem)).1 ∧ mm_I μ' (q + 1) 10 = nI (dropL (badF μ q Rd ld) least (nI Rd) (todo A (A.length - 1)) (mm_I μ (q + 15), rem)).2 ∧ (∀ k, k ≠ 10 → mm_I μ' (q + 1) k = mm_I μ (q + 1) k) ∧ (dropL (badF μ q Rd ld) least (nI Rd) (todo A (A.length - 1)) (mm_I μ (q + 15), rem)).2 ≤ rem) := by
  refine am_Ct.of (ls := [some (.ref (q + 1)), none, none, none, none]) (by decide) (Nat.le_of_ble_eq_true rfl) rfl (fun C fx hnm => ?_)
  have hE := ha.e
  have hR := ha.r
  have hL := hr.l
  have hq := hr.qq
  refine am_aload_n fx dX2_dropWorse_0 rfl ?_
  refine am_callV fx dX2_dropWorse_1 mkX2_109 (ct_X2_arrange hb hr ha) (so2 hr) ⟨by decide, rfl⟩ rfl (Nat.le_of_ble_eq_true rfl) ⟨by decide, by decide⟩ ⟨Nat.le_of_ble_eq_true rfl, Nat.le_of_ble_eq_true rfl⟩ rfl ?_
  rintro _ ν0 ⟨A, rfl, hS0, hP, hM, hAl, hG⟩
  have hb0 : Bs ν0 := hb.fr hS0.1
  have hr0 : Rc ν0 q L := hr.fr hS0.1
  have hd0 : ∀ x k, ¬ Sar q x → mm_I ν0 x k = mm_I μ x k := fun x k hx => hS0.2.1 x k hx
  have h150 : mm_I ν0 (q + 15) = mm_I μ (q + 15) := funext fun k => hd0 _ _ (by unfold Sar; omega)
  have hne : A ≠ [] := by
    obtain ⟨s, h1, h2⟩ := hex
    intro e
    have := (hM s).mpr ⟨h1, h2⟩
    rw [e] at this
    cases this
  obtain ⟨ld, hld⟩ : ∃ x, A.head? = some x := by
    cases A with
    | nil => exact absurd rfl hne
    | cons x B => exact ⟨x, rfl⟩
  have hld0 : A[0]? = some ld := by rw [← List.head?_eq_getElem?]; exact hld
  have hlen : 0 < A.length := List.length_pos_iff.mpr hne
  have hldm := (hM ld).mp (List.mem_of_getElem? hld0)
  refine am_istore_n fx dX2_dropWorse_4 (by decide) rfl ?_
  refine am_aload_n fx dX2_dropWorse_5 rfl ?_
  refine am_getR fx dX2_dropWorse_6 fkX2_23 (by decide) (by decide) rfl (so2 hr0) (rf2_8 hr0) ?_
  refine am_iconst (v := 0) fx dX2_dropWorse_9 (by decide) ?_
  refine am_iald (j := 0) fx dX2_dropWorse_10 (sa2_8 hr0) rfl (by omega) (by decide) (hG 0 ld hld0) ?_
  refine am_istore_n fx dX2_dropWorse_11 (by decide) rfl ?_
  refine am_iload_n fx dX2_dropWorse_12 rfl ?_
  refine am_iconst (v := 1) fx dX2_dropWorse_13 (by decide) ?_
  refine am_isub fx dX2_dropWorse_14 ?_
  refine am_topi (nI_pred1 hlen) ?_
  refine am_istore_n fx dX2_dropWorse_15 (by decide) rfl ?_
  have lp16 : ∀ (mz : Nat) (pl : Nat) (rm' : Nat) (ν : am_M), pl = mz → (pl < A.length ∧ Sm (Sdw q) μ ν ∧ dropL (badF μ q Rd ld) least (nI Rd) (todo A pl) (mm_I ν (q + 15), rm') = (dropL (badF μ q Rd ld) least (nI Rd) (todo A (A.length - 1)) (mm_I μ (q + 15), rem)) ∧ mm_I ν (q + 1) 10 = nI rm' ∧ rm' ≤ rem ∧ (∀ k, k ≠ 10 → mm_I ν (q + 1) k = mm_I μ (q + 1) k) ∧ (∀ j x, j ≤ pl → A[j]? = some x → mm_I ν (q + 15) x = 0) ∧ (∀ j x, A[j]? = some x → mm_I ν (q + 17) j = nI x)) → am_W E C (am_MQ E C (fun v μ' => ∃ (A : List Nat) (ld : Nat), v = none ∧ A.head? = some ld ∧ Sm (Sdw q) μ μ' ∧ A.Pairwise (lexR (rkF μ q Rd En)) ∧ (∀ x, x ∈ A ↔ x < En ∧ mm_I μ (q + 15) x = 0) ∧ A.length ≤ En ∧ mm_I μ' (q + 15) = (dropL (badF μ q Rd ld) least (nI Rd) (todo A (A.length - 1)) (mm_I μ (q + 15), rem)).1 ∧ mm_I μ' (q + 1) 10 = nI (dropL (badF μ q Rd ld) least (nI Rd) (todo A (A.length - 1)) (mm_I μ (q + 15), rem)).2 ∧ (∀ k, k ≠ 10 → mm_I μ' (q + 1) k = mm_I μ (q + 1) k) ∧ (dropL (badF μ q Rd ld) least (nI Rd) (todo A (A.length - 1)) (mm_I μ (q + 15), rem)).2 ≤ rem) (rmX2_dropWorse).cells (rmX2_dropWorse).slots) ν 0 0 16 [some (.ref (q + 1)), some (.int (nI A.length)), some (.int (nI ld)), some (.int (nI pl)), none] [] := by
    intro mz
    induction mz using Nat.strongRecOn with
    | ind mz ih =>
      intro pl rm' ν hz hI
      obtain ⟨hpl, hS, hD, h10, hrm, hk1, h15, h17⟩ := hI
      have hb2 : Bs ν := hb.fr hS.1
      have hr2 : Rc ν q L := hr.fr hS.1
      have hd : ∀ x k, ¬ Sdw q x → mm_I ν x k = mm_I μ x k := fun x k hx => hS.2.1 x k hx
      have ha2 : Ra ν q En Rd := ⟨by rw [hk1 4 (by decide)]; exact ha.1, by rw [hk1 12 (by decide)]; exact ha.2.1, hE, hR⟩
      have hq0 : ∀ k, mm_I ν q k = mm_I μ q k := fun k => hd _ _ (by unfold Sdw Sod; omega)
      have hq16 : ∀ k, mm_I ν (q + 16) k = mm_I μ (q + 16) k := fun k => hd _ _ (by unfold Sdw Sod; omega)
      have htk : ∀ x, x < 12 → tkn ν q x = tkn μ q x := fun x hx => funext fun k => hd _ _ (by unfold Sdw Sod; omega)
      refine am_iload_n fx dX2_dropWorse_16 rfl ?_
      refine am_iconst (v := 1) fx dX2_dropWorse_17 (by decide) ?_
      refine am_icmp_lt fx 110 dX2_dropWorse_18 (by decide) (fun c18 => ?_) (fun c18 => ?_)
      · skip
        have c18 : pl = 0 := by
          have h9 : nI pl < nI 1 := c18
          rw [nI_ltI (by omega) (by omega)] at h9
          omega
        exact am_vret fx dX2_dropWorse_110 ⟨A, ld, rfl, hld, hS, hP, hM, hAl, by rw [← hD, c18, todo_0]; rfl, by rw [← hD, c18, todo_0]; exact h10, hk1, by rw [← hD, c18, todo_0]; exact hrm⟩
      · skip
        have c18 : 0 < pl := by
          have h9 : ¬ nI pl < nI 1 := c18
          rw [nI_ltI (by omega) (by omega)] at h9
          omega
        refine am_aload_n fx dX2_dropWorse_21 rfl ?_
        refine am_getI fx dX2_dropWorse_22 fkX2_69 (by decide) (by decide) rfl (so2 hr2) h10 ?_
        refine am_aload_n fx dX2_dropWorse_25 rfl ?_
        refine am_getR fx dX2_dropWorse_26 fkX2_50 (by decide) (by decide) rfl (so2 hr2) (rf2_2 hr2) ?_
        refine am_getI fx dX2_dropWorse_29 fkX2_77 (by decide) (by decide) rfl (so3 hr2) ((hq0 4).trans hls) ?_
        refine am_icmp_le fx 110 dX2_dropWorse_32 (by decide) (fun c32 => ?_) (fun c32 => ?_)
        · try simp (disch := omega) only [bz_0, Classical.not_not, Int32.not_le, Int32.not_lt, Nat.not_le, Nat.not_lt, nI_leI, nI_ltI, nI_eq, nI_le0, nI_lt0] at c32
          exact am_vret fx dX2_dropWorse_110 ⟨A, ld, rfl, hld, hS, hP, hM, hAl, by rw [← hD, dropL_stop (show rm' ≤ least by omega)], by rw [← hD, dropL_stop (show rm' ≤ least by omega)]; exact h10, hk1, by rw [← hD, dropL_stop (show rm' ≤ least by omega)]; exact hrm⟩
        · try simp (disch := omega) only [bz_0, Classical.not_not, Int32.not_le, Int32.not_lt, Nat.not_le, Nat.not_lt, nI_leI, nI_ltI, nI_eq, nI_le0, nI_lt0] at c32
          obtain ⟨x0, hx0⟩ : ∃ x, A[pl]? = some x := ⟨A[pl]'(by omega), List.getElem?_eq_getElem (by omega)⟩
          have hx0m := (hM x0).mp (List.mem_of_getElem? hx0)
          obtain ⟨p1, rfl⟩ : ∃ p1, pl = p1 + 1 := ⟨pl - 1, by omega⟩
          rw [todo_s hx0] at hD
          refine am_aload_n fx dX2_dropWorse_35 rfl ?_
          refine am_getR fx dX2_dropWorse_36 fkX2_23 (by decide) (by decide) rfl (so2 hr2) (rf2_8 hr2) ?_
          refine am_iload_n fx dX2_dropWorse_39 rfl ?_
          refine am_iald  fx dX2_dropWorse_40 (sa2_8 hr2) rfl (by omega) (by decide) (h17 _ _ hx0) ?_
          refine am_istore fx dX2_dropWorse_41 (by decide) rfl ?_
          refine am_aload_n fx dX2_dropWorse_43 rfl ?_
          refine am_iload_n fx dX2_dropWorse_44 rfl ?_
          refine am_iload fx dX2_dropWorse_45 rfl ?_
          refine am_callV fx dX2_dropWorse_47 mkX2_112 (ct_X2_countOdds hb2 hr2 ha2 ld x0 Rd Rd hldm.1 hx0m.1 ((hq16 ld).trans (hran ld hldm.1 hldm.2)) ((hq16 x0).trans (hran x0 hx0m.1 hx0m.2)) hR hR) (so2 hr2) ⟨by decide, rfl⟩ rfl (Nat.le_of_ble_eq_true rfl) ⟨by decide, by decide⟩ ⟨Nat.le_of_ble_eq_true rfl, Nat.le_of_ble_eq_true rfl⟩ rfl ?_
          rintro _ ν3 ⟨rfl, hS3, hlo, hup⟩
          have hb3 : Bs ν3 := hb2.fr hS3.1
          have hr3 : Rc ν3 q L := hr2.fr hS3.1
          have h3 : ∀ x k, 57 ≤ x → mm_I ν3 x k = mm_I ν x k := fun x k hx => hS3.2.1 x k (Sod.d x hx)
          have ha3 : Ra ν3 q En Rd := ⟨by rw [h3 _ _ (by omega)]; exact ha2.1, by rw [h3 _ _ (by omega)]; exact ha2.2.1, hE, hR⟩
          have hst : mm_I ν3 (q + 15) = mm_I ν (q + 15) := funext fun k => h3 _ _ (by omega)
          rw [Nat.min_self, Nat.min_self, htk ld (by omega), htk x0 (by omega)] at hlo hup
          rw [hq0] at hup
          refine am_aload_n fx dX2_dropWorse_50 rfl ?_
          refine am_iload fx dX2_dropWorse_51 rfl ?_
          refine am_callV fx dX2_dropWorse_53 mkX2_85 (ct_X2_isLeftN hb3 hr3 ha3 x0 hx0m.1) (so2 hr3) ⟨by decide, rfl⟩ rfl (Nat.le_of_ble_eq_true rfl) ⟨by decide, by decide⟩ ⟨Nat.le_of_ble_eq_true rfl, Nat.le_of_ble_eq_true rfl⟩ rfl ?_
          rintro _ _ ⟨rfl, rfl⟩
          refine am_if_eq fx 104 dX2_dropWorse_56 (by decide) (fun c56 => ?_) (fun c56 => ?_)
          · try simp (disch := omega) only [bz_0, Classical.not_not, Int32.not_le, Int32.not_lt, Nat.not_le, Nat.not_lt, nI_leI, nI_ltI, nI_eq, nI_le0, nI_lt0] at c56
            exact absurd (by rw [h3 _ _ (by omega)]; exact h15 _ _ (Nat.le_refl _) hx0) c56
          · try simp (disch := omega) only [bz_0, Classical.not_not, Int32.not_le, Int32.not_lt, Nat.not_le, Nat.not_lt, nI_leI, nI_ltI, nI_eq, nI_le0, nI_lt0] at c56
            refine am_aload_n fx dX2_dropWorse_59 rfl ?_
            refine am_getR fx dX2_dropWorse_60 fkX2_46 (by decide) (by decide) rfl (so2 hr3) (rf2_1 hr3) ?_
            refine am_aload_n fx dX2_dropWorse_63 rfl ?_
            refine am_getR fx dX2_dropWorse_64 fkX2_50 (by decide) (by decide) rfl (so2 hr3) (rf2_2 hr3) ?_
            refine am_getI fx dX2_dropWorse_67 fkX2_116 (by decide) (by decide) rfl (so3 hr3) ((h3 _ _ (by omega)).trans (hq0 2)) ?_
            refine am_aload_n fx dX2_dropWorse_70 rfl ?_
            refine am_getR fx dX2_dropWorse_71 fkX2_50 (by decide) (by decide) rfl (so2 hr3) (rf2_2 hr3) ?_
            refine am_getI fx dX2_dropWorse_74 fkX2_119 (by decide) (by decide) rfl (so3 hr3) ((h3 _ _ (by omega)).trans (hq0 3)) ?_
            refine am_callV fx dX2_dropWorse_77 mkX2_122 (ct_X0_areAbove hb3 _ _) (so0 hb3) ⟨by decide, rfl⟩ rfl (Nat.le_of_ble_eq_true rfl) ⟨by decide, by decide⟩ ⟨Nat.le_of_ble_eq_true rfl, Nat.le_of_ble_eq_true rfl⟩ rfl ?_
            rintro _ _ ⟨rfl, rfl⟩
            refine am_if_ne fx 104 dX2_dropWorse_80 (by decide) (fun c80 => ?_) (fun c80 => ?_)
            · try simp (disch := omega) only [bz_0, Classical.not_not, Int32.not_le, Int32.not_lt, Nat.not_le, Nat.not_lt, nI_leI, nI_ltI, nI_eq, nI_le0, nI_lt0] at c80
              rw [hlo, hup] at c80
              have hDn : dropL (badF μ q Rd ld) least (nI Rd) (todo A p1) (mm_I ν3 (q + 15), rm') = (dropL (badF μ q Rd ld) least (nI Rd) (todo A (A.length - 1)) (mm_I μ (q + 15), rem)) := by
                rw [hst, ← hD]
                simp only [dropL]
                rw [if_neg (fun z => by simpa [badF, c80] using z.2)]
              first | refine am_iinc fx dX2_dropWorse_104 rfl (nI_dec (by omega)) (by decide) rfl ?_ | refine am_iinc fx dX2_dropWorse_104 rfl rfl (by decide) rfl ?_
              refine am_goto fx 16 dX2_dropWorse_107 (by decide) ?_
              refine am_sub [true, true, true, true, false] rfl ?_
              exact ih p1 (by omega) p1 rm' ν3 rfl ⟨by omega, hS.tr (hS3.mono (fun _ => Sdw.od)), hDn, by rw [h3 _ _ (by omega)]; exact h10, hrm, fun k hk => by rw [h3 _ _ (by omega)]; exact hk1 k hk, fun j x hj hx => by rw [h3 _ _ (by omega)]; exact h15 j x (by omega) hx, fun j x hx => by rw [h3 _ _ (by omega)]; exact h17 j x hx⟩
            · try simp (disch := omega) only [bz_0, Classical.not_not, Int32.not_le, Int32.not_lt, Nat.not_le, Nat.not_lt, nI_leI, nI_ltI, nI_eq, nI_le0, nI_lt0] at c80
              rw [hlo, hup] at c80
              have hDd : dropL (badF μ q Rd ld) least (nI Rd) (todo A p1) (mm_I (mm_sI (mm_sI ν3 (q + 15) x0 (nI Rd)) (q + 1) 10 (nI (rm' - 1))) (q + 15), rm' - 1) = (dropL (badF μ q Rd ld) least (nI Rd) (todo A (A.length - 1)) (mm_I μ (q + 15), rem)) := by
                rw [← hD]
                simp only [dropL]
                rw [if_pos ⟨by omega, by simp only [badF]; exact decide_eq_true c80⟩]
                congr 2
                funext k
                rw [mI_ne (Or.inl (by omega)), mI_sI, hst]
                unfold upd
                by_cases e : k = x0
                · rw [if_pos ⟨rfl, e⟩, if_pos e]
                · rw [if_neg (fun z => e z.2), if_neg e]
              refine am_aload_n fx dX2_dropWorse_83 rfl ?_
              refine am_getR fx dX2_dropWorse_84 fkX2_16 (by decide) (by decide) rfl (so2 hr3) (rf2_6 hr3) ?_
              refine am_iload fx dX2_dropWorse_87 rfl ?_
              refine am_aload_n fx dX2_dropWorse_89 rfl ?_
              refine am_getI fx dX2_dropWorse_90 fkX2_33 (by decide) (by decide) rfl (so2 hr3) ha3.2.1 ?_
              refine am_iast  fx dX2_dropWorse_93 (sa2_6 hr3) rfl (by omega) (by decide) ?_
              refine am_aload_n fx dX2_dropWorse_94 rfl ?_
              refine am_dup_ref fx dX2_dropWorse_95 ?_
              refine am_getI fx dX2_dropWorse_96 fkX2_69 (by decide) (by decide) rfl (so2 hr3) ((mI_ne (Or.inl (by omega))).trans ((h3 _ _ (by omega)).trans h10)) ?_
              refine am_iconst (v := 1) fx dX2_dropWorse_99 (by decide) ?_
              refine am_isub fx dX2_dropWorse_100 ?_
              refine am_topi (nI_pred1 (by omega)) ?_
              refine am_putI fx dX2_dropWorse_101 fkX2_69 (by decide) (by decide) rfl rfl (so2 hr3) ?_
              first | refine am_iinc fx dX2_dropWorse_104 rfl (nI_dec (by omega)) (by decide) rfl ?_ | refine am_iinc fx dX2_dropWorse_104 rfl rfl (by decide) rfl ?_
              refine am_goto fx 16 dX2_dropWorse_107 (by decide) ?_
              refine am_sub [true, true, true, true, false] rfl ?_
              exact ih p1 (by omega) p1 (rm' - 1) (mm_sI (mm_sI ν3 (q + 15) x0 (nI Rd)) (q + 1) 10 (nI (rm' - 1))) rfl ⟨by omega, (hS.tr (hS3.mono (fun _ => Sdw.od))).tr ((Sm.sI _ (Or.inr (Or.inl rfl))).tr (Sm.sI _ (Or.inl rfl))), hDd, mI_same _ _ _ _, by omega, fun k hk => by rw [mI_ne (Or.inr hk), mI_ne (Or.inl (by omega)), h3 _ _ (by omega)]; exact hk1 k hk, fun j x hj hx => by rw [mI_ne (Or.inl (by omega)), mI_ne (Or.inr (srt_ne hP hx hx0 (by omega))), h3 _ _ (by omega)]; exact h15 j x (by omega) hx, fun j x hx => by rw [mI_ne (Or.inl (by omega)), mI_ne (Or.inl (by omega)), h3 _ _ (by omega)]; exact h17 j x hx⟩
  refine am_sub [true, true, true, true, false] rfl ?_
  exact lp16 _ (A.length - 1) rem _ rfl ⟨by omega, hS0.mono (fun _ => Sdw.ar), by rw [h150], by rw [hd0 _ _ (by unfold Sar; omega)]; exact hrem, Nat.le_refl _, fun k _ => hd0 _ _ (by unfold Sar; omega), fun j x _ hx => by rw [h150]; exact ((hM x).mp (List.mem_of_getElem? hx)).2, hG⟩
