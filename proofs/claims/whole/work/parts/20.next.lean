set_option maxRecDepth 100000 in
set_option maxHeartbeats 4000000 in
theorem ct_X2_runNextN {E : am_E} {μ : am_M} (hb : Bs μ) {q L : Nat} (hr : Rc μ q L) {En Rd : Nat} (ha : Ra μ q En Rd) {S N : Nat} (ht : Tb μ S N) (hno : ¬ mm_I μ (q + 1) 14 = 0 ∨ co μ S N (mm_I μ (q + 1) 11) (if 0 ≤ nI Rd ∧ nI Rd < nI L then mm_I μ (q + 19) (nI Rd).toNatClampNeg else -1) = -1) : am_Ct E yX2_runNext cX2_runNext 2 (some .int) rmX2_runNext [.ref (q + 1)] μ (fun v μ' => v = some (.int (-3)) ∧ μ = μ') := by
  refine am_Ct.of (ls := [some (.ref (q + 1)), none]) (by decide) (Nat.le_of_ble_eq_true rfl) rfl (fun C fx hnm => ?_)
  have hE := ha.e
  have hR := ha.r
  have hL := hr.l
  have hq := hr.qq
  refine am_aload_n fx dX2_runNext_0 rfl ?_
  refine am_getR fx dX2_runNext_1 fkX2_42 (by decide) (by decide) rfl (so2 hr) (rf2_0 hr) ?_
  refine am_aload_n fx dX2_runNext_4 rfl ?_
  refine am_getI fx dX2_runNext_5 fkX2_29 (by decide) (by decide) rfl (so2 hr) rfl ?_
  refine am_aload_n fx dX2_runNext_8 rfl ?_
  refine am_aload_n fx dX2_runNext_9 rfl ?_
  refine am_getI fx dX2_runNext_10 fkX2_33 (by decide) (by decide) rfl (so2 hr) ha.2.1 ?_
  refine am_callV fx dX2_runNext_13 mkX2_89 (ct_X2_instanceAt hb hr _) (so2 hr) ⟨by decide, rfl⟩ rfl (Nat.le_of_ble_eq_true rfl) ⟨by decide, by decide⟩ ⟨Nat.le_of_ble_eq_true rfl, Nat.le_of_ble_eq_true rfl⟩ rfl ?_
  rintro _ _ ⟨rfl, rfl⟩
  refine am_callV fx dX2_runNext_16 mkX2_93 (ct_X5_costAt hb ht _ _) (so5 hb) ⟨by decide, rfl⟩ rfl (Nat.le_of_ble_eq_true rfl) ⟨by decide, by decide⟩ ⟨Nat.le_of_ble_eq_true rfl, Nat.le_of_ble_eq_true rfl⟩ rfl ?_
  rintro _ _ ⟨rfl, rfl⟩
  refine am_istore_n fx dX2_runNext_19 (by decide) rfl ?_
  refine am_aload_n fx dX2_runNext_20 rfl ?_
  refine am_getI fx dX2_runNext_21 fkX2_39 (by decide) (by decide) rfl (so2 hr) rfl ?_
  refine am_if_ne fx 43 dX2_runNext_24 (by decide) (fun c24 => ?_) (fun c24 => ?_)
  · skip
    refine am_bipush (v := (-3)) fx dX2_runNext_43 (by decide) ?_
    exact am_iret fx dX2_runNext_45 ⟨rfl, rfl⟩
  · skip
    refine am_iload_n fx dX2_runNext_27 rfl ?_
    refine am_iconst (v := (-1)) fx dX2_runNext_28 (by decide) ?_
    refine am_icmp_eq fx 43 dX2_runNext_29 (by decide) (fun c29 => ?_) (fun c29 => ?_)
    · skip
      refine am_bipush (v := (-3)) fx dX2_runNext_43 (by decide) ?_
      exact am_iret fx dX2_runNext_45 ⟨rfl, rfl⟩
    · skip
      exact absurd (hno.resolve_left (fun z => z c24)) c29
abbrev rnM (μ : am_M) (q nx Rd rn En : Nat) (c : Int32) : am_M := (mm_sI (mm_sI (mm_sI (mm_sI μ (q + 3 + nx) Rd c) (q + 16) nx (nI (Rd + 1))) (q + 1) 13 (nI (rn + 1))) (q + 1) 11 (enO (-1) (frst (fun s => decide (mm_I μ (q + 15) s = 0)) En (nx + 1))))
theorem frst_some {b : Nat → Bool} {n i y : Nat} (h : frst b n i = some y) : i ≤ y ∧ y < n ∧ b y = true ∧ ∀ j, i ≤ j → j < y → b j = false := by
  unfold frst at h
  have h1 := List.find?_some h
  have h2 := List.mem_range.mp (List.mem_of_find?_eq_some h)
  simp only [Bool.and_eq_true, decide_eq_true_eq] at h1
  refine ⟨h1.1, h2, h1.2, fun j hj hy => ?_⟩
  cases hb : b j with
  | false => rfl
  | true =>
    exfalso
    have hf := find_up (p := fun s => decide (i ≤ s) && b s) (n := n) (r := y) h2 (by simp [h1.1, h1.2])
    obtain ⟨m, hm1, hm2⟩ := pk_least (fun k => i ≤ k ∧ b k = true) ⟨j, hj, hb⟩
    have hmy : m < y := by
      rcases Nat.lt_or_ge m y with z | z
      · exact z
      · exact absurd ⟨hj, hb⟩ (hm2 j (by omega))
    have hg := find_up (p := fun s => decide (i ≤ s) && b s) (n := n) (r := m) (by omega) (by simp [hm1.1, hm1.2]) (fun k hk => by
      have := hm2 k hk
      by_cases hik : i ≤ k
      · cases hbk : b k with
        | false => simp
        | true => exact absurd ⟨hik, hbk⟩ this
      · simp [hik])
    rw [hg] at h
    cases h
    omega
theorem frst_none {b : Nat → Bool} {n i : Nat} (h : frst b n i = none) : ∀ j, i ≤ j → j < n → b j = false := by
  intro j h1 h2
  unfold frst at h
  have := List.find?_eq_none.mp h j (List.mem_range.mpr h2)
  simp only [Bool.and_eq_true, decide_eq_true_eq, not_and, Bool.not_eq_true] at this
  exact this h1
theorem rn_ran {μ : am_M} {q L En Rd nx rn : Nat} {c : Int32} (hr : Rc μ q L) (hxE : nx < En) (hE : En ≤ 12) (hran : ∀ s, s < En → mm_I μ (q + 15) s = 0 → mm_I μ (q + 16) s = nI (if s < nx then Rd + 1 else Rd)) (hfn : (frst (fun s => decide (mm_I μ (q + 15) s = 0)) En (nx + 1)) = none) (s : Nat) (hs : s < En) (hl : mm_I (rnM μ q nx Rd rn En c) (q + 15) s = 0) : mm_I (rnM μ q nx Rd rn En c) (q + 16) s = nI (Rd + 1) := by
  rw [mI_ne (Or.inl (by omega)), mI_ne (Or.inl (by omega)), mI_ne (Or.inl (by omega)), mI_ne (Or.inl (by omega))] at hl
  rw [mI_ne (Or.inl (by omega)), mI_ne (Or.inl (by omega)), mI_sI]
  by_cases e : s = nx
  · rw [if_pos ⟨rfl, e⟩]
  · rw [if_neg (fun z => e z.2), mI_ne (Or.inl (by omega)), hran s hs hl]
    rcases Nat.lt_or_ge s nx with z | z
    · rw [if_pos z]
    · have := frst_none hfn s (by omega) hs
      simp [hl] at this
set_option maxRecDepth 100000 in
set_option maxHeartbeats 4000000 in
theorem ct_X2_runNext {E : am_E} {μ : am_M} (hb : Bs μ) {q L : Nat} (hr : Rc μ q L) {En Rd : Nat} (ha : Ra μ q En Rd) {S N : Nat} (ht : Tb μ S N) {rem least nx io rn : Nat} {c : Int32} (hrem : mm_I μ (q + 1) 10 = nI rem) (hr12 : rem ≤ 12) (hls : mm_I μ q 4 = nI least) (hl12 : least ≤ 12) (hw : mm_I μ (q + 1) 14 = 0) (hnx : mm_I μ (q + 1) 11 = nI nx) (hxE : nx < En) (hES : En ≤ S) (hxl : mm_I μ (q + 15) nx = 0) (hRd : Rd < L) (hio : mm_I μ (q + 19) Rd = nI io) (hioN : io < N) (hc : mm_I μ (4 + nx) io = c) (hct : ¬ c = -1) (hrn : mm_I μ (q + 1) 13 = nI rn) (hrn2 : rn < 65536) (hran : ∀ s, s < En → mm_I μ (q + 15) s = 0 → mm_I μ (q + 16) s = nI (if s < nx then Rd + 1 else Rd)) : am_Ct E yX2_runNext cX2_runNext 2 (some .int) rmX2_runNext [.ref (q + 1)] μ (fun v μ' => v = some (.int (nI (rn + 1))) ∧ (((frst (fun s => decide (mm_I μ (q + 15) s = 0)) En (nx + 1)) ≠ none ∧ μ' = rnM μ q nx Rd rn En c) ∨ ((frst (fun s => decide (mm_I μ (q + 15) s = 0)) En (nx + 1)) = none ∧ EndP (rnM μ q nx Rd rn En c) μ' q L En Rd rem least))) := by
  refine am_Ct.of (ls := [some (.ref (q + 1)), none]) (by decide) (Nat.le_of_ble_eq_true rfl) rfl (fun C fx hnm => ?_)
  have hE := ha.e
  have hR := ha.r
  have hL := hr.l
  have hq := hr.qq
  have hS := ht.s
  have hN := ht.n
  refine am_aload_n fx dX2_runNext_0 rfl ?_
  refine am_getR fx dX2_runNext_1 fkX2_42 (by decide) (by decide) rfl (so2 hr) (rf2_0 hr) ?_
  refine am_aload_n fx dX2_runNext_4 rfl ?_
  refine am_getI fx dX2_runNext_5 fkX2_29 (by decide) (by decide) rfl (so2 hr) hnx ?_
  refine am_aload_n fx dX2_runNext_8 rfl ?_
  refine am_aload_n fx dX2_runNext_9 rfl ?_
  refine am_getI fx dX2_runNext_10 fkX2_33 (by decide) (by decide) rfl (so2 hr) ha.2.1 ?_
  refine am_callV fx dX2_runNext_13 mkX2_89 (ct_X2_instanceAt hb hr _) (so2 hr) ⟨by decide, rfl⟩ rfl (Nat.le_of_ble_eq_true rfl) ⟨by decide, by decide⟩ ⟨Nat.le_of_ble_eq_true rfl, Nat.le_of_ble_eq_true rfl⟩ rfl ?_
  rintro _ _ ⟨rfl, rfl⟩
  refine am_topi (show _ = nI io by rw [if_pos ⟨nI_pos' (by omega), nI_lt hRd (by omega)⟩, nI_clamp (by omega), hio]) ?_
  refine am_callV fx dX2_runNext_16 mkX2_93 (ct_X5_costAt hb ht _ _) (so5 hb) ⟨by decide, rfl⟩ rfl (Nat.le_of_ble_eq_true rfl) ⟨by decide, by decide⟩ ⟨Nat.le_of_ble_eq_true rfl, Nat.le_of_ble_eq_true rfl⟩ rfl ?_
  rintro _ _ ⟨rfl, rfl⟩
  refine am_topi (show _ = c by rw [co_in (by omega) hioN hS hN, hc]) ?_
  refine am_istore_n fx dX2_runNext_19 (by decide) rfl ?_
  refine am_aload_n fx dX2_runNext_20 rfl ?_
  refine am_getI fx dX2_runNext_21 fkX2_39 (by decide) (by decide) rfl (so2 hr) hw ?_
  refine am_if_ne fx 43 dX2_runNext_24 (by decide) (fun c24 => ?_) (fun c24 => ?_)
  · skip
    exact absurd rfl c24
  · skip
    refine am_iload_n fx dX2_runNext_27 rfl ?_
    refine am_iconst (v := (-1)) fx dX2_runNext_28 (by decide) ?_
    refine am_icmp_eq fx 43 dX2_runNext_29 (by decide) (fun c29 => ?_) (fun c29 => ?_)
    · skip
      exact absurd c29 hct
    · skip
      refine am_aload_n fx dX2_runNext_32 rfl ?_
      refine am_aload_n fx dX2_runNext_33 rfl ?_
      refine am_getI fx dX2_runNext_34 fkX2_29 (by decide) (by decide) rfl (so2 hr) hnx ?_
      refine am_callV fx dX2_runNext_37 mkX2_85 (ct_X2_isLeftN hb hr ha _ hxE) (so2 hr) ⟨by decide, rfl⟩ rfl (Nat.le_of_ble_eq_true rfl) ⟨by decide, by decide⟩ ⟨Nat.le_of_ble_eq_true rfl, Nat.le_of_ble_eq_true rfl⟩ rfl ?_
      rintro _ _ ⟨rfl, rfl⟩
      refine am_if_ne fx 46 dX2_runNext_40 (by decide) (fun c40 => ?_) (fun c40 => ?_)
      · try simp (disch := omega) only [bz_0, Classical.not_not, Int32.not_le, Int32.not_lt, Nat.not_le, Nat.not_lt, nI_leI, nI_ltI, nI_eq, nI_le0, nI_lt0] at c40
        refine am_aload_n fx dX2_runNext_46 rfl ?_
        refine am_getR fx dX2_runNext_47 fkX2_11 (by decide) (by decide) rfl (so2 hr) (rf2_5 hr) ?_
        refine am_aload_n fx dX2_runNext_50 rfl ?_
        refine am_getI fx dX2_runNext_51 fkX2_29 (by decide) (by decide) rfl (so2 hr) hnx ?_
        refine am_aald  fx dX2_runNext_54 (sa2_5 hr) rfl (by omega) (by decide) (rg2_5 hr (by omega)) ?_
        refine am_aload_n fx dX2_runNext_55 rfl ?_
        refine am_getI fx dX2_runNext_56 fkX2_33 (by decide) (by decide) rfl (so2 hr) ha.2.1 ?_
        refine am_iload_n fx dX2_runNext_59 rfl ?_
        refine am_iast  fx dX2_runNext_60 (sg2_5 hr (by omega)) rfl (by omega) (by decide) ?_
        have ed : ∀ x k, x ≠ q + 3 + nx → mm_I (mm_sI μ (q + 3 + nx) Rd c) x k = mm_I μ x k := fun x k hx => mI_ne (Or.inl hx)
        refine am_aload_n fx dX2_runNext_61 rfl ?_
        refine am_getR fx dX2_runNext_62 fkX2_20 (by decide) (by decide) rfl (so2 hr) (rf2_7 hr) ?_
        refine am_aload_n fx dX2_runNext_65 rfl ?_
        refine am_getI fx dX2_runNext_66 fkX2_29 (by decide) (by decide) rfl (so2 hr) ((ed _ _ (by omega)).trans hnx) ?_
        refine am_dup2 fx dX2_runNext_69 ?_
        refine am_iald  fx dX2_runNext_70 (sa2_7 hr) rfl (by omega) (by decide) ((ed _ _ (by omega)).trans ((hran nx hxE hxl).trans (by rw [if_neg (by omega)]))) ?_
        refine am_iconst (v := 1) fx dX2_runNext_71 (by decide) ?_
        refine am_iadd fx dX2_runNext_72 ?_
        refine am_topi (nI_1 Rd) ?_
        refine am_iast  fx dX2_runNext_73 (sa2_7 hr) rfl (by omega) (by decide) ?_
        refine am_aload_n fx dX2_runNext_74 rfl ?_
        refine am_dup_ref fx dX2_runNext_75 ?_
        refine am_getI fx dX2_runNext_76 fkX2_36 (by decide) (by decide) rfl (so2 hr) ((mI_ne (Or.inl (by omega))).trans ((ed _ _ (by omega)).trans hrn)) ?_
        refine am_iconst (v := 1) fx dX2_runNext_79 (by decide) ?_
        refine am_iadd fx dX2_runNext_80 ?_
        refine am_topi (nI_1 rn) ?_
        refine am_putI fx dX2_runNext_81 fkX2_36 (by decide) (by decide) rfl rfl (so2 hr) ?_
        have e1 : ∀ x k, x ≠ q + 3 + nx → x ≠ q + 16 → x ≠ q + 1 → mm_I (mm_sI (mm_sI (mm_sI μ (q + 3 + nx) Rd c) (q + 16) nx (nI (Rd + 1))) (q + 1) 13 (nI (rn + 1))) x k = mm_I μ x k := fun x k a b c => by rw [mI_ne (Or.inl c), mI_ne (Or.inl b), mI_ne (Or.inl a)]
        have ef : ∀ k, k ≠ 13 → mm_I (mm_sI (mm_sI (mm_sI μ (q + 3 + nx) Rd c) (q + 16) nx (nI (Rd + 1))) (q + 1) 13 (nI (rn + 1))) (q + 1) k = mm_I μ (q + 1) k := fun k hk => by rw [mI_ne (Or.inr hk), mI_ne (Or.inl (by omega)), mI_ne (Or.inl (by omega))]
        have hb1 : Bs (mm_sI (mm_sI (mm_sI μ (q + 3 + nx) Rd c) (q + 16) nx (nI (Rd + 1))) (q + 1) 13 (nI (rn + 1))) := hb.fr ⟨rfl, rfl, rfl⟩
        have hr1 : Rc (mm_sI (mm_sI (mm_sI μ (q + 3 + nx) Rd c) (q + 16) nx (nI (Rd + 1))) (q + 1) 13 (nI (rn + 1))) q L := hr.fr ⟨rfl, rfl, rfl⟩
        have ha1 : Ra (mm_sI (mm_sI (mm_sI μ (q + 3 + nx) Rd c) (q + 16) nx (nI (Rd + 1))) (q + 1) 13 (nI (rn + 1))) q En Rd := ⟨by rw [ef 4 (by decide)]; exact ha.1, by rw [ef 12 (by decide)]; exact ha.2.1, hE, hR⟩
        have e15 : mm_I (mm_sI (mm_sI (mm_sI μ (q + 3 + nx) Rd c) (q + 16) nx (nI (Rd + 1))) (q + 1) 13 (nI (rn + 1))) (q + 15) = mm_I μ (q + 15) := funext fun k => e1 _ _ (by omega) (by omega) (by omega)
        refine am_aload_n fx dX2_runNext_84 rfl ?_
        refine am_aload_n fx dX2_runNext_85 rfl ?_
        refine am_aload_n fx dX2_runNext_86 rfl ?_
        refine am_getI fx dX2_runNext_87 fkX2_29 (by decide) (by decide) rfl (so2 hr1) ((ef 11 (by decide)).trans hnx) ?_
        refine am_iconst (v := 1) fx dX2_runNext_90 (by decide) ?_
        refine am_iadd fx dX2_runNext_91 ?_
        refine am_topi (nI_1 nx) ?_
        refine am_callV fx dX2_runNext_92 mkX2_97 (ct_X2_leftFrom hb1 hr1 ha1 (nx + 1) (by omega)) (so2 hr1) ⟨by decide, rfl⟩ rfl (Nat.le_of_ble_eq_true rfl) ⟨by decide, by decide⟩ ⟨Nat.le_of_ble_eq_true rfl, Nat.le_of_ble_eq_true rfl⟩ rfl ?_
        rintro _ _ ⟨rfl, rfl⟩
        rw [e15]
        refine am_putI fx dX2_runNext_95 fkX2_29 (by decide) (by decide) rfl rfl (so2 hr1) ?_
        have hb2 : Bs (rnM μ q nx Rd rn En c) := hb.fr ⟨rfl, rfl, rfl⟩
        have hr2 : Rc (rnM μ q nx Rd rn En c) q L := hr.fr ⟨rfl, rfl, rfl⟩
        have eg : ∀ k, k ≠ 13 → k ≠ 11 → mm_I (rnM μ q nx Rd rn En c) (q + 1) k = mm_I μ (q + 1) k := fun k hk h11 => by rw [mI_ne (Or.inr h11)]; exact ef k hk
        have e2 : ∀ x k, x ≠ q + 3 + nx → x ≠ q + 16 → x ≠ q + 1 → mm_I (rnM μ q nx Rd rn En c) x k = mm_I μ x k := fun x k a b c => by rw [mI_ne (Or.inl c)]; exact e1 x k a b c
        have ha2 : Ra (rnM μ q nx Rd rn En c) q En Rd := ⟨by rw [eg 4 (by decide) (by decide)]; exact ha.1, by rw [eg 12 (by decide) (by decide)]; exact ha.2.1, hE, hR⟩
        refine am_aload_n fx dX2_runNext_98 rfl ?_
        refine am_getI fx dX2_runNext_99 fkX2_29 (by decide) (by decide) rfl (so2 hr2) (mI_same _ _ _ _) ?_
        refine am_iconst (v := (-1)) fx dX2_runNext_102 (by decide) ?_
        refine am_icmp_ne fx 110 dX2_runNext_103 (by decide) (fun c103 => ?_) (fun c103 => ?_)
        · skip
          have hfn : (frst (fun s => decide (mm_I μ (q + 15) s = 0)) En (nx + 1)) ≠ none := fun e => c103 (by rw [e]; rfl)
          refine am_aload_n fx dX2_runNext_110 rfl ?_
          refine am_getI fx dX2_runNext_111 fkX2_36 (by decide) (by decide) rfl (so2 hr2) (by rw [mI_ne (Or.inr (by decide)), mI_same]) ?_
          exact am_iret fx dX2_runNext_114 ⟨rfl, Or.inl ⟨hfn, rfl⟩⟩
        · skip
          have hfn : (frst (fun s => decide (mm_I μ (q + 15) s = 0)) En (nx + 1)) = none := by
            cases hf : (frst (fun s => decide (mm_I μ (q + 15) s = 0)) En (nx + 1)) with
            | none => rfl
            | some y =>
              rw [hf] at c103
              have := (frst_some hf).2.1
              exact absurd c103 (fun z => by have h9 : nI y < 0 := by rw [show nI y = -1 from z]; decide
                                             exact nI_pos (by omega) h9)
          refine am_aload_n fx dX2_runNext_106 rfl ?_
          refine am_callV fx dX2_runNext_107 mkX2_100 (ct_X2_endRound hb2 hr2 ha2 (rem := rem) (least := least) (by rw [eg 10 (by decide) (by decide)]; exact hrem) hr12 (by rw [e2 _ _ (by omega) (by omega) (by omega)]; exact hls) hl12 (by omega) (fun s hs hl => rn_ran hr hxE (by omega) hran hfn s hs hl) ⟨nx, hxE, by rw [e2 _ _ (by omega) (by omega) (by omega)]; exact hxl⟩) (so2 hr2) ⟨by decide, rfl⟩ rfl (Nat.le_of_ble_eq_true rfl) ⟨by decide, by decide⟩ ⟨Nat.le_of_ble_eq_true rfl, Nat.le_of_ble_eq_true rfl⟩ rfl ?_
          rintro _ ν2 ⟨rfl, hEnd⟩
          have hr3 : Rc ν2 q L := by
            obtain ⟨dr, re, h1, h2, h3, h4⟩ := hEnd
            exact hr2.fr h3.1
          have h13 : mm_I ν2 (q + 1) 13 = nI (rn + 1) := by
            obtain ⟨dr, re, h1, h2, h3, h4, h5, h6, h7, h8, h9⟩ := hEnd
            rw [h9 13 (by decide) (by decide) (by decide) (by decide), mI_ne (Or.inr (by decide)), mI_same]
          refine am_aload_n fx dX2_runNext_110 rfl ?_
          refine am_getI fx dX2_runNext_111 fkX2_36 (by decide) (by decide) rfl (so2 hr3) h13 ?_
          exact am_iret fx dX2_runNext_114 ⟨rfl, Or.inr ⟨hfn, hEnd⟩⟩
      · try simp (disch := omega) only [bz_0, Classical.not_not, Int32.not_le, Int32.not_lt, Nat.not_le, Nat.not_lt, nI_leI, nI_ltI, nI_eq, nI_le0, nI_lt0] at c40
        exact absurd hxl c40
