set_option maxRecDepth 100000 in
set_option maxHeartbeats 4000000 in
theorem ct_X4_putAllFromCut {E : am_E} {μ : am_M} (hb : Bs μ) {S N : Nat} (ht : Tb μ S N) : am_Ct E yX4_putAllFromCut cX4_putAllFromCut 4 none rmX4_putAllFromCut [.ref 43, .ref 2] μ (fun v μ' => v = none ∧ Sm S45 μ μ' ∧ (∀ s, s < S → mm_I μ' 44 s = 0 ∧ mm_I μ' 45 s = smQ (lrn μ) (cst μ s) N)) := by
  refine am_Ct.of (ls := [some (.ref 43), some (.ref 2), none, none]) (by decide) (Nat.le_of_ble_eq_true rfl) rfl (fun C fx hnm => ?_)
  have hS := ht.s
  have hN := ht.n
  refine am_aload_n fx dX4_putAllFromCut_0 rfl ?_
  refine am_getR fx dX4_putAllFromCut_1 fkX4_9 (by decide) (by decide) rfl (so4 hb) (rf4_0 hb) ?_
  refine am_iconst (v := 0) fx dX4_putAllFromCut_4 (by decide) ?_
  refine am_callS fx dX4_putAllFromCut_5 mkX4_54 (ct_J7_fill_53178 (sa4_0 hb) (by decide) _) rfl (Nat.le_of_ble_eq_true rfl) ⟨by decide, by decide⟩ ⟨Nat.le_of_ble_eq_true rfl, Nat.le_of_ble_eq_true rfl⟩ rfl ?_
  rintro _ _ ⟨rfl, rfl⟩
  refine am_aload_n fx dX4_putAllFromCut_8 rfl ?_
  refine am_getR fx dX4_putAllFromCut_9 fkX4_15 (by decide) (by decide) rfl (so4 (hb.fr (Fr.fI _ _ _))) (rf4_1 (hb.fr (Fr.fI _ _ _))) ?_
  refine am_iconst (v := 0) fx dX4_putAllFromCut_12 (by decide) ?_
  refine am_callS fx dX4_putAllFromCut_13 mkX4_54 (ct_J7_fill_53178 (μ := mm_fI μ 44 (flI 0 (mm_I μ 44) 12)) (sa4_1 hb) (by decide) _) rfl (Nat.le_of_ble_eq_true rfl) ⟨by decide, by decide⟩ ⟨Nat.le_of_ble_eq_true rfl, Nat.le_of_ble_eq_true rfl⟩ rfl ?_
  rintro _ _ ⟨rfl, rfl⟩
  refine am_iconst (v := 0) fx dX4_putAllFromCut_16 (by decide) ?_
  refine am_istore_n fx dX4_putAllFromCut_17 (by decide) rfl ?_
  have lp18 : ∀ (mz : Nat) (r : Nat) (ν : am_M), S - r = mz → (r ≤ S ∧ Sm S45 μ ν ∧ (∀ s, s < 12 → mm_I ν 44 s = 0 ∧ mm_I ν 45 s = (if s < r then smQ (lrn μ) (cst μ s) N else 0))) → am_W E C (am_MQ E C (fun v μ' => v = none ∧ Sm S45 μ μ' ∧ (∀ s, s < S → mm_I μ' 44 s = 0 ∧ mm_I μ' 45 s = smQ (lrn μ) (cst μ s) N)) (rmX4_putAllFromCut).cells (rmX4_putAllFromCut).slots) ν 0 0 18 [some (.ref 43), some (.ref 2), some (.int (nI r)), none] [] := by
    intro mz
    induction mz using Nat.strongRecOn with
    | ind mz ih =>
      intro r ν hz hI
      obtain ⟨hr, hM, hF⟩ := hI
      have hb2 : Bs ν := hb.fr hM.1
      have ht2 : Tb ν S N := ht.sm hM (by unfold S45; omega)
      have hd : ∀ x k, x ≠ 44 → x ≠ 45 → mm_I ν x k = mm_I μ x k := fun x k a b => hM.2.1 x k (by unfold S45; omega)
      refine am_iload_n fx dX4_putAllFromCut_18 rfl ?_
      refine am_aload_n fx dX4_putAllFromCut_19 rfl ?_
      refine am_getI fx dX4_putAllFromCut_20 fkX4_60 (by decide) (by decide) rfl (so5 hb2) ht2.1 ?_
      refine am_icmp_ge fx 71 dX4_putAllFromCut_23 (by decide) (fun c23 => ?_) (fun c23 => ?_)
      · try simp (disch := omega) only [bz_0, Classical.not_not, Int32.not_le, Int32.not_lt, Nat.not_le, Nat.not_lt, nI_leI, nI_ltI, nI_eq, nI_le0, nI_lt0] at c23
        exact am_vret fx dX4_putAllFromCut_71 ⟨rfl, hM, fun s hs => by have := hF s (by omega); rw [if_pos (show s < r by omega)] at this; exact this⟩
      · try simp (disch := omega) only [bz_0, Classical.not_not, Int32.not_le, Int32.not_lt, Nat.not_le, Nat.not_lt, nI_leI, nI_ltI, nI_eq, nI_le0, nI_lt0] at c23
        refine am_iconst (v := 0) fx dX4_putAllFromCut_26 (by decide) ?_
        refine am_istore_n fx dX4_putAllFromCut_27 (by decide) rfl ?_
        have lp28 : ∀ (mz : Nat) (i : Nat) (ν2 : am_M), N - i = mz → (i ≤ N ∧ Sm S45 μ ν2 ∧ (∀ s, s < 12 → mm_I ν2 44 s = 0 ∧ mm_I ν2 45 s = (if s < r then smQ (lrn μ) (cst μ s) N else if s = r then smQ (lrn μ) (cst μ s) i else 0))) → am_W E C (am_MQ E C (fun v μ' => v = none ∧ Sm S45 μ μ' ∧ (∀ s, s < S → mm_I μ' 44 s = 0 ∧ mm_I μ' 45 s = smQ (lrn μ) (cst μ s) N)) (rmX4_putAllFromCut).cells (rmX4_putAllFromCut).slots) ν2 0 0 28 [some (.ref 43), some (.ref 2), some (.int (nI r)), some (.int (nI i))] [] := by
          intro mz
          induction mz using Nat.strongRecOn with
          | ind mz ih2 =>
            intro i ν2 hz2 hJ
            obtain ⟨hi, hM2, hF2⟩ := hJ
            have hb3 : Bs ν2 := hb.fr hM2.1
            have ht3 : Tb ν2 S N := ht.sm hM2 (by unfold S45; omega)
            have he : ∀ x k, x ≠ 44 → x ≠ 45 → mm_I ν2 x k = mm_I μ x k := fun x k a b => hM2.2.1 x k (by unfold S45; omega)
            refine am_iload_n fx dX4_putAllFromCut_28 rfl ?_
            refine am_aload_n fx dX4_putAllFromCut_29 rfl ?_
            refine am_getI fx dX4_putAllFromCut_30 fkX4_63 (by decide) (by decide) rfl (so5 hb3) ht3.2.1 ?_
            refine am_icmp_ge fx 65 dX4_putAllFromCut_33 (by decide) (fun c33 => ?_) (fun c33 => ?_)
            · try simp (disch := omega) only [bz_0, Classical.not_not, Int32.not_le, Int32.not_lt, Nat.not_le, Nat.not_lt, nI_leI, nI_ltI, nI_eq, nI_le0, nI_lt0] at c33
              first | refine am_iinc fx dX4_putAllFromCut_65 rfl (nI_inc _) (by decide) rfl ?_ | refine am_iinc fx dX4_putAllFromCut_65 rfl rfl (by decide) rfl ?_
              refine am_goto fx 18 dX4_putAllFromCut_68 (by decide) ?_
              refine am_sub [true, true, true, false] rfl ?_
              exact ih (S - (r + 1)) (by omega) (r + 1) ν2 rfl ⟨by omega, hM2, fun s hs => by have := hF2 s hs; rw [show i = N by omega] at this; refine ⟨this.1, this.2.trans ?_⟩; by_cases h1 : s < r; rw [if_pos h1, if_pos (by omega)]; rw [if_neg h1]; by_cases h2 : s = r; rw [if_pos h2, if_pos (by omega)]; rw [if_neg h2, if_neg (by omega)]⟩
            · try simp (disch := omega) only [bz_0, Classical.not_not, Int32.not_le, Int32.not_lt, Nat.not_le, Nat.not_lt, nI_leI, nI_ltI, nI_eq, nI_le0, nI_lt0] at c33
              refine am_aload_n fx dX4_putAllFromCut_36 rfl ?_
              refine am_iload_n fx dX4_putAllFromCut_37 rfl ?_
              refine am_callV fx dX4_putAllFromCut_38 mkX4_66 (ct_X5_isLearning hb3 ht3 i (by assumption)) (so5 hb3) ⟨by decide, rfl⟩ rfl (Nat.le_of_ble_eq_true rfl) ⟨by decide, by decide⟩ ⟨Nat.le_of_ble_eq_true rfl, Nat.le_of_ble_eq_true rfl⟩ rfl ?_
              rintro _ _ ⟨rfl, rfl⟩
              refine am_if_eq fx 59 dX4_putAllFromCut_41 (by decide) (fun c41 => ?_) (fun c41 => ?_)
              · try simp (disch := omega) only [bz_0, Classical.not_not, Int32.not_le, Int32.not_lt, Nat.not_le, Nat.not_lt, nI_leI, nI_ltI, nI_eq, nI_le0, nI_lt0] at c41
                rw [he _ _ (by decide) (by decide)] at c41
                first | refine am_iinc fx dX4_putAllFromCut_59 rfl (nI_inc _) (by decide) rfl ?_ | refine am_iinc fx dX4_putAllFromCut_59 rfl rfl (by decide) rfl ?_
                refine am_goto fx 28 dX4_putAllFromCut_62 (by decide) ?_
                exact ih2 (N - (i + 1)) (by omega) (i + 1) ν2 rfl ⟨by omega, hM2, fun s hs => by have := hF2 s hs; refine ⟨this.1, this.2.trans ?_⟩; simp only [smQ]; rw [if_neg (show ¬ lrn μ i = true by simp [lrn, c41]), Int32.add_zero]⟩
              · try simp (disch := omega) only [bz_0, Classical.not_not, Int32.not_le, Int32.not_lt, Nat.not_le, Nat.not_lt, nI_leI, nI_ltI, nI_eq, nI_le0, nI_lt0] at c41
                rw [he _ _ (by decide) (by decide)] at c41
                refine am_aload_n fx dX4_putAllFromCut_44 rfl ?_
                refine am_getR fx dX4_putAllFromCut_45 fkX4_15 (by decide) (by decide) rfl (so4 hb3) (rf4_1 hb3) ?_
                refine am_iload_n fx dX4_putAllFromCut_48 rfl ?_
                refine am_dup2 fx dX4_putAllFromCut_49 ?_
                refine am_iald  fx dX4_putAllFromCut_50 (sa4_1 hb3) rfl (by omega) (by decide) (show _ = smQ (lrn μ) (cst μ r) i by rw [(hF2 r (by omega)).2, if_neg (by omega), if_pos rfl]) ?_
                refine am_aload_n fx dX4_putAllFromCut_51 rfl ?_
                refine am_iload_n fx dX4_putAllFromCut_52 rfl ?_
                refine am_iload_n fx dX4_putAllFromCut_53 rfl ?_
                refine am_callV fx dX4_putAllFromCut_54 mkX4_70 (ct_X5_costAt hb3 ht3 (nI r) (nI i)) (so5 hb3) ⟨by decide, rfl⟩ rfl (Nat.le_of_ble_eq_true rfl) ⟨by decide, by decide⟩ ⟨Nat.le_of_ble_eq_true rfl, Nat.le_of_ble_eq_true rfl⟩ rfl ?_
                rintro _ _ ⟨rfl, rfl⟩
                rw [co_in (by omega) (by omega) hS hN, he _ _ (by omega) (by omega)]
                refine am_iadd fx dX4_putAllFromCut_57 ?_
                refine am_iast  fx dX4_putAllFromCut_58 (sa4_1 hb3) rfl (by omega) (by decide) ?_
                first | refine am_iinc fx dX4_putAllFromCut_59 rfl (nI_inc _) (by decide) rfl ?_ | refine am_iinc fx dX4_putAllFromCut_59 rfl rfl (by decide) rfl ?_
                refine am_goto fx 28 dX4_putAllFromCut_62 (by decide) ?_
                exact ih2 (N - (i + 1)) (by omega) (i + 1) _ rfl ⟨by omega, hM2.tr (Sm.sI _ (Or.inr rfl)), fun s hs => by have := hF2 s hs; refine ⟨(mI_ne (Or.inl (by decide))).trans this.1, ?_⟩; by_cases h2 : s = r; subst h2; rw [mI_same, if_neg (by omega), if_pos rfl]; simp only [smQ]; rw [if_pos (by simp [lrn, c41])]; rw [mI_ne (Or.inr h2), this.2]; by_cases h1 : s < r; rw [if_pos h1, if_pos h1]; rw [if_neg h1, if_neg h1, if_neg h2, if_neg h2]⟩
        exact lp28 _ 0 ν rfl ⟨by omega, hM, fun s hs => by have := hF s hs; refine ⟨this.1, this.2.trans ?_⟩; by_cases h1 : s < r; rw [if_pos h1, if_pos h1]; rw [if_neg h1, if_neg h1]; by_cases h2 : s = r; rw [if_pos h2]; rfl; rw [if_neg h2]⟩
  refine am_sub [true, true, true, false] rfl ?_
  exact lp18 _ 0 _ rfl ⟨by omega, (Sm.fI _ (Or.inl rfl)).tr (Sm.fI _ (Or.inr rfl)), fun s hs => ⟨by rw [mI_fIn (by decide), mI_fIs, flI, if_pos hs], by rw [mI_fIs, flI, if_pos hs, if_neg (by omega)]⟩⟩
theorem am1_n1 {p : Nat → Bool} {c : Nat → Int32} {k : Nat} (hp : p k = true) (h : am1 p c k = none) : am1 p c (k + 1) = some k := by
  simp only [am1, h, hp, if_true]
theorem am1_s1 {p : Nat → Bool} {c : Nat → Int32} {k b : Nat} (hp : p k = true) (h : am1 p c k = some b) (hc : c k < c b) : am1 p c (k + 1) = some k := by
  simp only [am1, h, hp, true_and, if_pos hc]
theorem am1_s2 {p : Nat → Bool} {c : Nat → Int32} {k b : Nat} (h : am1 p c k = some b) (hc : c b ≤ c k) : am1 p c (k + 1) = some b := by
  simp only [am1, h]
  rw [if_neg (fun q => absurd q.2 (Int32.not_lt.mpr hc))]
theorem nI_nm1 {b : Nat} (h : b < 2 ^ 31) : ¬ nI b = -1 := fun z => by
  have h9 : nI b < 0 := by rw [z]; decide
  exact nI_pos h h9
theorem enO_m1 {o : Option Nat} (h : enO (-1) o = -1) (hb : ∀ b, o = some b → b < 2 ^ 31) : o = none := by
  cases o with
  | none => rfl
  | some b =>
    exfalso
    have h9 : nI b < 0 := by rw [show nI b = -1 from h]; decide
    exact nI_pos (hb b rfl) h9
set_option maxRecDepth 100000 in
set_option maxHeartbeats 4000000 in
theorem ct_X4_leastOf {E : am_E} {μ : am_M} (hb : Bs μ) {S N : Nat} (ht : Tb μ S N) (a : Nat) (hs : mm_S μ a = (8, 12)) : am_Ct E yX4_leastOf cX4_leastOf 4 (some .int) rmX4_leastOf [.ref 2, .ref a] μ (fun v μ' => v = some (.int (enO (-1) (am1 (fun s => decide (mm_I μ 16 s = nI N)) (mm_I μ a) S))) ∧ μ = μ') := by
  refine am_Ct.of (ls := [some (.ref 2), some (.ref a), none, none]) (by decide) (Nat.le_of_ble_eq_true rfl) rfl (fun C fx hnm => ?_)
  have hS := ht.s
  have hN := ht.n
  refine am_iconst (v := (-1)) fx dX4_leastOf_0 (by decide) ?_
  refine am_istore_n fx dX4_leastOf_1 (by decide) rfl ?_
  refine am_iconst (v := 0) fx dX4_leastOf_2 (by decide) ?_
  refine am_istore_n fx dX4_leastOf_3 (by decide) rfl ?_
  have lp4 : ∀ (mz : Nat) (r : Nat) (x : Int32), S - r = mz → r ≤ S → x = enO (-1) (am1 (fun s => decide (mm_I μ 16 s = nI N)) (mm_I μ a) r) → am_W E C (am_MQ E C (fun v μ' => v = some (.int (enO (-1) (am1 (fun s => decide (mm_I μ 16 s = nI N)) (mm_I μ a) S))) ∧ μ = μ') (rmX4_leastOf).cells (rmX4_leastOf).slots) μ 0 0 4 [some (.ref 2), some (.ref a), some (.int x), some (.int (nI r))] [] := by
    intro mz
    induction mz using Nat.strongRecOn with
    | ind mz ih =>
      intro r x hz hr hx
      refine am_iload_n fx dX4_leastOf_4 rfl ?_
      refine am_aload_n fx dX4_leastOf_5 rfl ?_
      refine am_getI fx dX4_leastOf_6 fkX4_60 (by decide) (by decide) rfl (so5 hb) ht.1 ?_
      refine am_icmp_ge fx 48 dX4_leastOf_9 (by decide) (fun c9 => ?_) (fun c9 => ?_)
      · try simp (disch := omega) only [bz_0, Classical.not_not, Int32.not_le, Int32.not_lt, Nat.not_le, Nat.not_lt, nI_leI, nI_ltI, nI_eq, nI_le0, nI_lt0] at c9
        refine am_iload_n fx dX4_leastOf_48 rfl ?_
        exact am_iret fx dX4_leastOf_49 ⟨by rw [hx, show r = S by omega], rfl⟩
      · try simp (disch := omega) only [bz_0, Classical.not_not, Int32.not_le, Int32.not_lt, Nat.not_le, Nat.not_lt, nI_leI, nI_ltI, nI_eq, nI_le0, nI_lt0] at c9
        refine am_iload_n fx dX4_leastOf_12 rfl ?_
        refine am_aload_n fx dX4_leastOf_13 rfl ?_
        refine am_alen fx dX4_leastOf_14 hs (by decide) rfl ?_
        refine am_icmp_ge fx 48 dX4_leastOf_15 (by decide) (fun c15 => ?_) (fun c15 => ?_)
        · try simp (disch := omega) only [bz_0, Classical.not_not, Int32.not_le, Int32.not_lt, Nat.not_le, Nat.not_lt, nI_leI, nI_ltI, nI_eq, nI_le0, nI_lt0] at c15
          exact absurd c15 (by omega)
        · try simp (disch := omega) only [bz_0, Classical.not_not, Int32.not_le, Int32.not_lt, Nat.not_le, Nat.not_lt, nI_leI, nI_ltI, nI_eq, nI_le0, nI_lt0] at c15
          refine am_aload_n fx dX4_leastOf_18 rfl ?_
          refine am_iload_n fx dX4_leastOf_19 rfl ?_
          refine am_callV fx dX4_leastOf_20 mkX4_77 (ct_X5_isWhole hb ht _ (by assumption)) (so5 hb) ⟨by decide, rfl⟩ rfl (Nat.le_of_ble_eq_true rfl) ⟨by decide, by decide⟩ ⟨Nat.le_of_ble_eq_true rfl, Nat.le_of_ble_eq_true rfl⟩ rfl ?_
          rintro _ _ ⟨rfl, rfl⟩
          refine am_if_eq fx 42 dX4_leastOf_23 (by decide) (fun c23 => ?_) (fun c23 => ?_)
          · try simp (disch := omega) only [bz_0, Classical.not_not, Int32.not_le, Int32.not_lt, Nat.not_le, Nat.not_lt, nI_leI, nI_ltI, nI_eq, nI_le0, nI_lt0] at c23
            first | refine am_iinc fx dX4_leastOf_42 rfl (nI_inc _) (by decide) rfl ?_ | refine am_iinc fx dX4_leastOf_42 rfl rfl (by decide) rfl ?_
            refine am_goto fx 4 dX4_leastOf_45 (by decide) ?_
            exact ih (S - (r + 1)) (by omega) (r + 1) _ rfl (by omega) (by rw [am1_n (p := (fun s => decide (mm_I μ 16 s = nI N))) (by simp [c23])]; exact hx)
          · try simp (disch := omega) only [bz_0, Classical.not_not, Int32.not_le, Int32.not_lt, Nat.not_le, Nat.not_lt, nI_leI, nI_ltI, nI_eq, nI_le0, nI_lt0] at c23
            refine am_iload_n fx dX4_leastOf_26 rfl ?_
            refine am_iconst (v := (-1)) fx dX4_leastOf_27 (by decide) ?_
            refine am_icmp_eq fx 40 dX4_leastOf_28 (by decide) (fun c28 => ?_) (fun c28 => ?_)
            · skip
              rw [hx] at c28
              have hn1 := enO_m1 c28 (fun b hb => by have := (am1_lt hb).1; omega)
              refine am_iload_n fx dX4_leastOf_40 rfl ?_
              refine am_istore_n fx dX4_leastOf_41 (by decide) rfl ?_
              first | refine am_iinc fx dX4_leastOf_42 rfl (nI_inc _) (by decide) rfl ?_ | refine am_iinc fx dX4_leastOf_42 rfl rfl (by decide) rfl ?_
              refine am_goto fx 4 dX4_leastOf_45 (by decide) ?_
              exact ih (S - (r + 1)) (by omega) (r + 1) _ rfl (by omega) (by rw [am1_n1 (by simp [c23]) hn1]; rfl)
            · skip
              obtain ⟨b, hb1⟩ : ∃ b, am1 (fun s => decide (mm_I μ 16 s = nI N)) (mm_I μ a) r = some b := by
                cases h9 : am1 (fun s => decide (mm_I μ 16 s = nI N)) (mm_I μ a) r with
                | none => rw [h9] at hx; exact absurd hx c28
                | some b => exact ⟨b, rfl⟩
              rw [hb1] at hx
              have hx : x = nI b := hx
              subst hx
              have hbr := (am1_lt hb1).1
              refine am_aload_n fx dX4_leastOf_31 rfl ?_
              refine am_iload_n fx dX4_leastOf_32 rfl ?_
              refine am_iald  fx dX4_leastOf_33 hs rfl (by omega) (by decide) rfl ?_
              refine am_aload_n fx dX4_leastOf_34 rfl ?_
              refine am_iload_n fx dX4_leastOf_35 rfl ?_
              refine am_iald  fx dX4_leastOf_36 hs rfl (by omega) (by decide) rfl ?_
              refine am_icmp_ge fx 42 dX4_leastOf_37 (by decide) (fun c37 => ?_) (fun c37 => ?_)
              · skip
                first | refine am_iinc fx dX4_leastOf_42 rfl (nI_inc _) (by decide) rfl ?_ | refine am_iinc fx dX4_leastOf_42 rfl rfl (by decide) rfl ?_
                refine am_goto fx 4 dX4_leastOf_45 (by decide) ?_
                exact ih (S - (r + 1)) (by omega) (r + 1) _ rfl (by omega) (by rw [am1_s2 hb1 c37]; rfl)
              · skip
                have c37 := Int32.not_le.mp c37
                refine am_iload_n fx dX4_leastOf_40 rfl ?_
                refine am_istore_n fx dX4_leastOf_41 (by decide) rfl ?_
                first | refine am_iinc fx dX4_leastOf_42 rfl (nI_inc _) (by decide) rfl ?_ | refine am_iinc fx dX4_leastOf_42 rfl rfl (by decide) rfl ?_
                refine am_goto fx 4 dX4_leastOf_45 (by decide) ?_
                exact ih (S - (r + 1)) (by omega) (r + 1) _ rfl (by omega) (by rw [am1_s1 (by simp [c23]) hb1 c37]; rfl)
  exact lp4 _ 0 _ rfl (by omega) rfl
set_option maxRecDepth 100000 in
set_option maxHeartbeats 4000000 in
theorem ct_X4_keepIfLess {E : am_E} {μ : am_M} (hb : Bs μ) {S N : Nat} (ht : Tb μ S N) (f c : Int32) {b h : Nat} (h1 : am1 (fun s => decide (mm_I μ 16 s = nI N)) (mm_I μ 44) S = some b) (h2 : am1 (fun s => decide (mm_I μ 16 s = nI N)) (mm_I μ 45) S = some h) : am_Ct E yX4_keepIfLess cX4_keepIfLess 7 none rmX4_keepIfLess [.ref 43, .ref 2, .int f, .int c] μ (fun v μ' => v = none ∧ μ' = (if mm_I μ 44 b + mm_I μ 45 h < mm_I μ 43 6 then mm_sI (mm_sI (mm_sI (mm_sI (mm_sI μ 43 6 (mm_I μ 44 b + mm_I μ 45 h)) 43 2 f) 43 3 c) 43 4 (nI b)) 43 5 (nI h) else μ)) := by
  refine am_Ct.of (ls := [some (.ref 43), some (.ref 2), some (.int f), some (.int c), none, none, none]) (by decide) (Nat.le_of_ble_eq_true rfl) rfl (fun C fx hnm => ?_)
  have hS := ht.s
  have hN := ht.n
  have hb1 := (am1_lt h1).1
  have hh1 := (am1_lt h2).1
  refine am_aload_n fx dX4_keepIfLess_0 rfl ?_
  refine am_aload_n fx dX4_keepIfLess_1 rfl ?_
  refine am_getR fx dX4_keepIfLess_2 fkX4_9 (by decide) (by decide) rfl (so4 hb) (rf4_0 hb) ?_
  refine am_callS fx dX4_keepIfLess_5 mkX4_73 (ct_X4_leastOf hb ht 44 (sa4_0 hb)) rfl (Nat.le_of_ble_eq_true rfl) ⟨by decide, by decide⟩ ⟨Nat.le_of_ble_eq_true rfl, Nat.le_of_ble_eq_true rfl⟩ rfl ?_
  rintro _ _ ⟨rfl, rfl⟩
  rw [h1]
  refine am_topi (show _ = nI b from rfl) ?_
  refine am_istore fx dX4_keepIfLess_8 (by decide) rfl ?_
  refine am_aload_n fx dX4_keepIfLess_10 rfl ?_
  refine am_aload_n fx dX4_keepIfLess_11 rfl ?_
  refine am_getR fx dX4_keepIfLess_12 fkX4_15 (by decide) (by decide) rfl (so4 hb) (rf4_1 hb) ?_
  refine am_callS fx dX4_keepIfLess_15 mkX4_73 (ct_X4_leastOf hb ht 45 (sa4_1 hb)) rfl (Nat.le_of_ble_eq_true rfl) ⟨by decide, by decide⟩ ⟨Nat.le_of_ble_eq_true rfl, Nat.le_of_ble_eq_true rfl⟩ rfl ?_
  rintro _ _ ⟨rfl, rfl⟩
  rw [h2]
  refine am_topi (show _ = nI h from rfl) ?_
  refine am_istore fx dX4_keepIfLess_18 (by decide) rfl ?_
  refine am_iload fx dX4_keepIfLess_20 rfl ?_
  refine am_iconst (v := (-1)) fx dX4_keepIfLess_22 (by decide) ?_
  refine am_icmp_eq fx 32 dX4_keepIfLess_23 (by decide) (fun c23 => ?_) (fun c23 => ?_)
  · skip
    exact absurd c23 (nI_nm1 (by omega))
  · skip
    refine am_iload fx dX4_keepIfLess_26 rfl ?_
    refine am_iconst (v := (-1)) fx dX4_keepIfLess_28 (by decide) ?_
    refine am_icmp_ne fx 33 dX4_keepIfLess_29 (by decide) (fun c29 => ?_) (fun c29 => ?_)
    · skip
      refine am_aload_n fx dX4_keepIfLess_33 rfl ?_
      refine am_getR fx dX4_keepIfLess_34 fkX4_9 (by decide) (by decide) rfl (so4 hb) (rf4_0 hb) ?_
      refine am_iload fx dX4_keepIfLess_37 rfl ?_
      refine am_iald (j := b) fx dX4_keepIfLess_39 (sa4_0 hb) rfl (by omega) (by decide) rfl ?_
      refine am_aload_n fx dX4_keepIfLess_40 rfl ?_
      refine am_getR fx dX4_keepIfLess_41 fkX4_15 (by decide) (by decide) rfl (so4 hb) (rf4_1 hb) ?_
      refine am_iload fx dX4_keepIfLess_44 rfl ?_
      refine am_iald (j := h) fx dX4_keepIfLess_46 (sa4_1 hb) rfl (by omega) (by decide) rfl ?_
      refine am_iadd fx dX4_keepIfLess_47 ?_
      refine am_istore fx dX4_keepIfLess_48 (by decide) rfl ?_
      refine am_iload fx dX4_keepIfLess_50 rfl ?_
      refine am_aload_n fx dX4_keepIfLess_52 rfl ?_
      refine am_getI fx dX4_keepIfLess_53 fkX4_31 (by decide) (by decide) rfl (so4 hb) rfl ?_
      refine am_icmp_ge fx 87 dX4_keepIfLess_56 (by decide) (fun c56 => ?_) (fun c56 => ?_)
      · skip
        exact am_vret fx dX4_keepIfLess_87 ⟨rfl, by rw [if_neg (Int32.not_lt.mpr c56)]⟩
      · skip
        refine am_aload_n fx dX4_keepIfLess_59 rfl ?_
        refine am_iload fx dX4_keepIfLess_60 rfl ?_
        refine am_putI fx dX4_keepIfLess_62 fkX4_31 (by decide) (by decide) rfl rfl (so4 hb) ?_
        refine am_aload_n fx dX4_keepIfLess_65 rfl ?_
        refine am_iload_n fx dX4_keepIfLess_66 rfl ?_
        refine am_putI fx dX4_keepIfLess_67 fkX4_18 (by decide) (by decide) rfl rfl (so4 hb) ?_
        refine am_aload_n fx dX4_keepIfLess_70 rfl ?_
        refine am_iload_n fx dX4_keepIfLess_71 rfl ?_
        refine am_putI fx dX4_keepIfLess_72 fkX4_22 (by decide) (by decide) rfl rfl (so4 hb) ?_
        refine am_aload_n fx dX4_keepIfLess_75 rfl ?_
        refine am_iload fx dX4_keepIfLess_76 rfl ?_
        refine am_putI fx dX4_keepIfLess_78 fkX4_25 (by decide) (by decide) rfl rfl (so4 hb) ?_
        refine am_aload_n fx dX4_keepIfLess_81 rfl ?_
        refine am_iload fx dX4_keepIfLess_82 rfl ?_
        refine am_putI fx dX4_keepIfLess_84 fkX4_28 (by decide) (by decide) rfl rfl (so4 hb) ?_
        exact am_vret fx dX4_keepIfLess_87 ⟨rfl, by rw [if_pos (Int32.not_le.mp c56)]⟩
    · skip
      exact absurd c29 (nI_nm1 (by omega))
