/-! the model: the best set -/
def smX (lr : Nat → Bool) (cs : Nat → Nat → Int32) (S N X : Nat) : Int32 := smQ lr (fun i => lfM X.testBit (fun s => cs s i) S) N
def cnX (AL k X : Nat) : Prop := X &&& AL = X ∧ cnt X.testBit 12 = k
def bsC (sm : Nat → Int32) (B Y : Nat) : Prop := sm B < sm Y ∨ (sm B = sm Y ∧ rcF Y.testBit 12 ≤ rcF B.testBit 12)
def bstP (sm : Nat → Int32) (AL k r : Nat) (bs bm : Int32) : Prop := (bs = -1 ∧ ∀ Y, Y < r → ¬ cnX AL k Y) ∨ (∃ B, B < r ∧ bs = nI B ∧ bm = sm B ∧ cnX AL k B ∧ ∀ Y, Y < r → cnX AL k Y → bsC sm B Y)
theorem bsC_tr {sm : Nat → Int32} {A B C : Nat} (h : bsC sm A B) (h2 : bsC sm B C) : bsC sm A C := by
  rcases h with h | ⟨h, h'⟩
  · rcases h2 with q | ⟨q, q'⟩
    · exact Or.inl (Int32.lt_trans h q)
    · exact Or.inl (q ▸ h)
  · rcases h2 with q | ⟨q, q'⟩
    · exact Or.inl (h ▸ q)
    · exact Or.inr ⟨h.trans q, Nat.le_trans q' h'⟩
theorem bst_no {sm : Nat → Int32} {AL k r : Nat} {bs bm : Int32} (h : bstP sm AL k r bs bm) (hn : ¬ cnX AL k r) : bstP sm AL k (r + 1) bs bm := by
  rcases h with ⟨h1, h2⟩ | ⟨B, h1, h2, h3, h4, h5⟩
  · exact Or.inl ⟨h1, fun Y hY => by rcases Nat.lt_or_ge Y r with z | z; exact h2 Y z; rw [show Y = r by omega]; exact hn⟩
  · exact Or.inr ⟨B, by omega, h2, h3, h4, fun Y hY hc => by rcases Nat.lt_or_ge Y r with z | z; exact h5 Y z hc; rw [show Y = r by omega] at hc; exact absurd hc hn⟩
theorem bst_keep {sm : Nat → Int32} {AL k r B : Nat} (hB : B < r) (hc : cnX AL k B) (hm : ∀ Y, Y < r → cnX AL k Y → bsC sm B Y) (hr : bsC sm B r) : bstP sm AL k (r + 1) (nI B) (sm B) := Or.inr ⟨B, by omega, rfl, rfl, hc, fun Y hY hq => by rcases Nat.lt_or_ge Y r with z | z; exact hm Y z hq; rw [show Y = r by omega]; exact hr⟩
theorem bst_new {sm : Nat → Int32} {AL k r B : Nat} (hc : cnX AL k r) (hm : ∀ Y, Y < r → cnX AL k Y → bsC sm B Y) (hr : bsC sm r B) : bstP sm AL k (r + 1) (nI r) (sm r) := Or.inr ⟨r, by omega, rfl, rfl, hc, fun Y hY hq => by rcases Nat.lt_or_ge Y r with z | z; exact bsC_tr hr (hm Y z hq); rw [show Y = r by omega]; exact Or.inr ⟨rfl, Nat.le_refl _⟩⟩
theorem bst_first {sm : Nat → Int32} {AL k r : Nat} (hc : cnX AL k r) (hm : ∀ Y, Y < r → ¬ cnX AL k Y) : bstP sm AL k (r + 1) (nI r) (sm r) := Or.inr ⟨r, by omega, rfl, rfl, hc, fun Y hY hq => by rcases Nat.lt_or_ge Y r with z | z; exact absurd hq (hm Y z); rw [show Y = r by omega]; exact Or.inr ⟨rfl, Nat.le_refl _⟩⟩
theorem bst_neg {sm : Nat → Int32} {AL k r : Nat} {bs bm : Int32} (h : bstP sm AL k r bs bm) (hr : r < 2 ^ 31) (hn : bs < 0) : ∀ Y, Y < r → ¬ cnX AL k Y := by
  rcases h with ⟨h1, h2⟩ | ⟨B, h1, h2, h3⟩
  · exact h2
  · rw [h2] at hn; exact absurd hn (nI_pos (by omega))
theorem bst_some {sm : Nat → Int32} {AL k r : Nat} {bs bm : Int32} (h : bstP sm AL k r bs bm) (hn : ¬ bs < 0) : ∃ B, B < r ∧ bs = nI B ∧ bm = sm B ∧ cnX AL k B ∧ ∀ Y, Y < r → cnX AL k Y → bsC sm B Y := by
  rcases h with ⟨h1, h2⟩ | h
  · rw [h1] at hn; exact absurd (by decide) hn
  · exact h
theorem s2_up (μ : am_M) (a b c d : Int32) : mm_sI (mm_sI (mm_sI (mm_sI μ 46 26 a) 46 27 b) 46 26 c) 46 27 d = mm_sI (mm_sI μ 46 26 c) 46 27 d := am_ext rfl (fun x y => by
  simp only [mI_sI]
  by_cases h1 : x = 46 ∧ y = 27
  · simp [h1]
  · by_cases h2 : x = 46 ∧ y = 26
    · obtain ⟨rfl, rfl⟩ := h2
      simp
    · simp [h1, h2]) (fun _ _ => rfl) rfl rfl
set_option maxRecDepth 100000 in
set_option maxHeartbeats 4000000 in
theorem ct_X7_findSet {E : am_E} {μ : am_M} (hb : Bs μ) {S N : Nat} {cs : Nat → Nat → Int32} (hm : Mt μ S N cs) {lr : Nat → Bool} (hh : ∀ i, i < N → mm_I μ 48 i = bz (¬ lr i = true)) (k : Nat) (hk : k ≤ 12) : am_Ct E yX7_findSet cX7_findSet 6 none rmX7_findSet [.ref 46, .int (nI k)] μ (fun v μ' => v = none ∧ ∃ bs bm, μ' = (mm_sI (mm_sI μ 46 26 bs) 46 27 bm) ∧ bstP (smX lr cs S N) (bitsN (whM cs N) S) k 4096 bs bm) := by
  refine am_Ct.of (ls := [some (.ref 46), some (.int (nI k)), none, none, none, none]) (by decide) (Nat.le_of_ble_eq_true rfl) rfl (fun C fx hnm => ?_)
  have hS := hm.s
  have hN := hm.n
  have hAL : (bitsN (whM cs N) S) < 4096 := Nat.lt_of_lt_of_le (bitsN_lt _ S) (Nat.pow_le_pow_right (by decide) hS)
  refine am_aload_n fx dX7_findSet_0 rfl ?_
  refine am_callV fx dX7_findSet_1 mkX7_145 (ct_X7_wholes hb hm) (so7 hb) ⟨by decide, rfl⟩ rfl (Nat.le_of_ble_eq_true rfl) ⟨by decide, by decide⟩ ⟨Nat.le_of_ble_eq_true rfl, Nat.le_of_ble_eq_true rfl⟩ rfl ?_
  rintro _ _ ⟨rfl, rfl⟩
  refine am_istore_n fx dX7_findSet_4 (by decide) rfl ?_
  refine am_aload_n fx dX7_findSet_5 rfl ?_
  refine am_iconst (v := (-1)) fx dX7_findSet_6 (by decide) ?_
  refine am_putI fx dX7_findSet_7 fkX7_148 (by decide) (by decide) rfl rfl (so7 hb) ?_
  refine am_aload_n fx dX7_findSet_10 rfl ?_
  refine am_iconst (v := 0) fx dX7_findSet_11 (by decide) ?_
  refine am_putI fx dX7_findSet_12 fkX7_151 (by decide) (by decide) rfl rfl (so7 hb) ?_
  refine am_iconst (v := 0) fx dX7_findSet_15 (by decide) ?_
  refine am_istore_n fx dX7_findSet_16 (by decide) rfl ?_
  have lp17 : ∀ (mz : Nat) (r : Nat) (bs bm : Int32), 4096 - r = mz → r ≤ 4096 → bstP (smX lr cs S N) (bitsN (whM cs N) S) k r bs bm → am_W E C (am_MQ E C (fun v μ' => v = none ∧ ∃ bs bm, μ' = (mm_sI (mm_sI μ 46 26 bs) 46 27 bm) ∧ bstP (smX lr cs S N) (bitsN (whM cs N) S) k 4096 bs bm) (rmX7_findSet).cells (rmX7_findSet).slots) (mm_sI (mm_sI μ 46 26 bs) 46 27 bm) 0 0 17 [some (.ref 46), some (.int (nI k)), some (.int (nI (bitsN (whM cs N) S))), some (.int (nI r)), none, none] [] := by
    intro mz
    induction mz using Nat.strongRecOn with
    | ind mz ih =>
      intro r bs bm hz hr hB
      have hb2 : Bs (mm_sI (mm_sI μ 46 26 bs) 46 27 bm) := hb.fr ⟨rfl, rfl, rfl⟩
      have hm2 : Mt (mm_sI (mm_sI μ 46 26 bs) 46 27 bm) S N cs := hm.keep ((mI_ne (Or.inr (by decide))).trans (mI_ne (Or.inr (by decide)))) ((mI_ne (Or.inr (by decide))).trans (mI_ne (Or.inr (by decide)))) (fun k => (mI_ne (Or.inl (by decide))).trans (mI_ne (Or.inl (by decide))))
      have e26 : mm_I (mm_sI (mm_sI μ 46 26 bs) 46 27 bm) 46 26 = bs := (mI_ne (Or.inr (by decide))).trans (mI_same _ _ _ _)
      have e27 : mm_I (mm_sI (mm_sI μ 46 26 bs) 46 27 bm) 46 27 = bm := mI_same _ _ _ _
      refine am_iload_n fx dX7_findSet_17 rfl ?_
      refine am_sipush (v := (nI 4096)) fx dX7_findSet_18 (by decide) ?_
      refine am_icmp_ge fx 139 dX7_findSet_21 (by decide) (fun c21 => ?_) (fun c21 => ?_)
      · try simp (disch := omega) only [bz_0, Classical.not_not, Int32.not_le, Int32.not_lt, Nat.not_le, Nat.not_lt, nI_leI, nI_ltI, nI_eq, nI_le0, nI_lt0] at c21
        exact am_vret fx dX7_findSet_139 ⟨rfl, bs, bm, rfl, by rw [show 4096 = r by omega]; exact hB⟩
      · try simp (disch := omega) only [bz_0, Classical.not_not, Int32.not_le, Int32.not_lt, Nat.not_le, Nat.not_lt, nI_leI, nI_ltI, nI_eq, nI_le0, nI_lt0] at c21
        refine am_iload_n fx dX7_findSet_24 rfl ?_
        refine am_iload_n fx dX7_findSet_25 rfl ?_
        refine am_iand fx dX7_findSet_26 ?_
        refine am_topi (nI_and (by omega) (by omega)) ?_
        refine am_iload_n fx dX7_findSet_27 rfl ?_
        refine am_icmp_ne fx 133 dX7_findSet_28 (by decide) (fun c28 => ?_) (fun c28 => ?_)
        · skip
          have c28 : ¬ r &&& (bitsN (whM cs N) S) = r := fun z => c28 (by rw [z])
          first | refine am_iinc fx dX7_findSet_133 rfl (nI_inc _) (by decide) rfl ?_ | refine am_iinc fx dX7_findSet_133 rfl rfl (by decide) rfl ?_
          refine am_goto fx 17 dX7_findSet_136 (by decide) ?_
          refine am_sub [true, true, true, true, false, false] rfl ?_
          exact ih (4096 - (r + 1)) (by omega) (r + 1)  bs bm rfl (by omega) (bst_no hB (fun z => c28 z.1))
        · skip
          have c28 : r &&& (bitsN (whM cs N) S) = r := (nI_eq (by have := Nat.and_le_left (n := r) (m := (bitsN (whM cs N) S)); omega) (by omega)).mp c28
          refine am_iload_n fx dX7_findSet_31 rfl ?_
          refine am_callS fx dX7_findSet_32 mkX7_154 (ct_X7_many (X := r) (by omega)) rfl (Nat.le_of_ble_eq_true rfl) ⟨by decide, by decide⟩ ⟨Nat.le_of_ble_eq_true rfl, Nat.le_of_ble_eq_true rfl⟩ rfl ?_
          rintro _ _ ⟨rfl, rfl⟩
          refine am_iload_n fx dX7_findSet_35 rfl ?_
          refine am_icmp_ne fx 133 dX7_findSet_36 (by decide) (fun c36 => ?_) (fun c36 => ?_)
          · skip
            have c36 : ¬ cnt r.testBit 12 = k := fun z => c36 (by rw [z])
            first | refine am_iinc fx dX7_findSet_133 rfl (nI_inc _) (by decide) rfl ?_ | refine am_iinc fx dX7_findSet_133 rfl rfl (by decide) rfl ?_
            refine am_goto fx 17 dX7_findSet_136 (by decide) ?_
            refine am_sub [true, true, true, true, false, false] rfl ?_
            exact ih (4096 - (r + 1)) (by omega) (r + 1)  bs bm rfl (by omega) (bst_no hB (fun z => c36 z.2))
          · skip
            have c36 : cnt r.testBit 12 = k := (nI_eq (by have := cnt_le r.testBit 12; omega) (by omega)).mp c36
            have hcn : cnX (bitsN (whM cs N) S) k r := ⟨c28, c36⟩
            refine am_iconst (v := 0) fx dX7_findSet_39 (by decide) ?_
            refine am_istore fx dX7_findSet_40 (by decide) rfl ?_
            refine am_iconst (v := 0) fx dX7_findSet_42 (by decide) ?_
            refine am_istore fx dX7_findSet_43 (by decide) rfl ?_
            have lp45 : ∀ (mz : Nat) (j : Nat), N - j = mz → j ≤ N → am_W E C (am_MQ E C (fun v μ' => v = none ∧ ∃ bs bm, μ' = (mm_sI (mm_sI μ 46 26 bs) 46 27 bm) ∧ bstP (smX lr cs S N) (bitsN (whM cs N) S) k 4096 bs bm) (rmX7_findSet).cells (rmX7_findSet).slots) (mm_sI (mm_sI μ 46 26 bs) 46 27 bm) 0 0 45 [some (.ref 46), some (.int (nI k)), some (.int (nI (bitsN (whM cs N) S))), some (.int (nI r)), some (.int (smQ lr (fun i => lfM r.testBit (fun s => cs s i) S) j)), some (.int (nI j))] [] := by
              intro mz
              induction mz using Nat.strongRecOn with
              | ind mz ih2 =>
                intro j hz2 hj
                refine am_iload fx dX7_findSet_45 rfl ?_
                refine am_aload_n fx dX7_findSet_47 rfl ?_
                refine am_getI fx dX7_findSet_48 fkX7_53 (by decide) (by decide) rfl (so7 hb2) hm2.2.1 ?_
                refine am_icmp_ge fx 86 dX7_findSet_51 (by decide) (fun c51 => ?_) (fun c51 => ?_)
                · try simp (disch := omega) only [bz_0, Classical.not_not, Int32.not_le, Int32.not_lt, Nat.not_le, Nat.not_lt, nI_leI, nI_ltI, nI_eq, nI_le0, nI_lt0] at c51
                  rw [show j = N by omega]
                  refine am_aload_n fx dX7_findSet_86 rfl ?_
                  refine am_getI fx dX7_findSet_87 fkX7_148 (by decide) (by decide) rfl (so7 hb2) e26 ?_
                  refine am_if_lt fx 122 dX7_findSet_90 (by decide) (fun c90 => ?_) (fun c90 => ?_)
                  · skip
                    refine am_aload_n fx dX7_findSet_122 rfl ?_
                    refine am_iload_n fx dX7_findSet_123 rfl ?_
                    refine am_putI fx dX7_findSet_124 fkX7_148 (by decide) (by decide) rfl rfl (so7 hb2) ?_
                    refine am_aload_n fx dX7_findSet_127 rfl ?_
                    refine am_iload fx dX7_findSet_128 rfl ?_
                    refine am_putI fx dX7_findSet_130 fkX7_151 (by decide) (by decide) rfl rfl (so7 hb2) ?_
                    first | refine am_iinc fx dX7_findSet_133 rfl (nI_inc _) (by decide) rfl ?_ | refine am_iinc fx dX7_findSet_133 rfl rfl (by decide) rfl ?_
                    refine am_goto fx 17 dX7_findSet_136 (by decide) ?_
                    refine am_sub [true, true, true, true, false, false] rfl ?_
                    exact am_mem (s2_up _ _ _ _ _) (ih (4096 - (r + 1)) (by omega) (r + 1)  _ _ rfl (by omega) (bst_first hcn (bst_neg hB (by omega) c90)))
                  · skip
                    obtain ⟨B, hBr, hbs, hbm, hBc, hBm⟩ := bst_some hB c90
                    subst hbs
                    subst hbm
                    refine am_iload fx dX7_findSet_93 rfl ?_
                    refine am_aload_n fx dX7_findSet_95 rfl ?_
                    refine am_getI fx dX7_findSet_96 fkX7_151 (by decide) (by decide) rfl (so7 hb2) e27 ?_
                    refine am_icmp_lt fx 122 dX7_findSet_99 (by decide) (fun c99 => ?_) (fun c99 => ?_)
                    · skip
                      have c99 : (smX lr cs S N) r < (smX lr cs S N) B := c99
                      refine am_aload_n fx dX7_findSet_122 rfl ?_
                      refine am_iload_n fx dX7_findSet_123 rfl ?_
                      refine am_putI fx dX7_findSet_124 fkX7_148 (by decide) (by decide) rfl rfl (so7 hb2) ?_
                      refine am_aload_n fx dX7_findSet_127 rfl ?_
                      refine am_iload fx dX7_findSet_128 rfl ?_
                      refine am_putI fx dX7_findSet_130 fkX7_151 (by decide) (by decide) rfl rfl (so7 hb2) ?_
                      first | refine am_iinc fx dX7_findSet_133 rfl (nI_inc _) (by decide) rfl ?_ | refine am_iinc fx dX7_findSet_133 rfl rfl (by decide) rfl ?_
                      refine am_goto fx 17 dX7_findSet_136 (by decide) ?_
                      refine am_sub [true, true, true, true, false, false] rfl ?_
                      exact am_mem (s2_up _ _ _ _ _) (ih (4096 - (r + 1)) (by omega) (r + 1)  _ _ rfl (by omega) (bst_new hcn hBm (Or.inl c99)))
                    · skip
                      have c99 : (smX lr cs S N) B ≤ (smX lr cs S N) r := Int32.not_lt.mp c99
                      refine am_iload fx dX7_findSet_102 rfl ?_
                      refine am_aload_n fx dX7_findSet_104 rfl ?_
                      refine am_getI fx dX7_findSet_105 fkX7_151 (by decide) (by decide) rfl (so7 hb2) e27 ?_
                      refine am_icmp_ne fx 133 dX7_findSet_108 (by decide) (fun c108 => ?_) (fun c108 => ?_)
                      · skip
                        have c108 : ¬ (smX lr cs S N) r = (smX lr cs S N) B := c108
                        first | refine am_iinc fx dX7_findSet_133 rfl (nI_inc _) (by decide) rfl ?_ | refine am_iinc fx dX7_findSet_133 rfl rfl (by decide) rfl ?_
                        refine am_goto fx 17 dX7_findSet_136 (by decide) ?_
                        refine am_sub [true, true, true, true, false, false] rfl ?_
                        exact ih (4096 - (r + 1)) (by omega) (r + 1)  _ _ rfl (by omega) (bst_keep hBr hBc hBm (Or.inl ((i32_tri _ _).elim (fun z => absurd z (Int32.not_lt.mpr c99)) (fun z => z.elim (fun q => absurd q c108) id))))
                      · skip
                        have c108 : (smX lr cs S N) r = (smX lr cs S N) B := c108
                        refine am_iload_n fx dX7_findSet_111 rfl ?_
                        refine am_aload_n fx dX7_findSet_112 rfl ?_
                        refine am_getI fx dX7_findSet_113 fkX7_148 (by decide) (by decide) rfl (so7 hb2) e26 ?_
                        refine am_callS fx dX7_findSet_116 mkX7_160 (ct_X7_isAhead (X := r) (Y := B) (by omega) (by omega)) rfl (Nat.le_of_ble_eq_true rfl) ⟨by decide, by decide⟩ ⟨Nat.le_of_ble_eq_true rfl, Nat.le_of_ble_eq_true rfl⟩ rfl ?_
                        rintro _ _ ⟨rfl, rfl⟩
                        refine am_if_eq fx 133 dX7_findSet_119 (by decide) (fun c119 => ?_) (fun c119 => ?_)
                        · try simp (disch := omega) only [bz_0, Classical.not_not, Int32.not_le, Int32.not_lt, Nat.not_le, Nat.not_lt, nI_leI, nI_ltI, nI_eq, nI_le0, nI_lt0] at c119
                          first | refine am_iinc fx dX7_findSet_133 rfl (nI_inc _) (by decide) rfl ?_ | refine am_iinc fx dX7_findSet_133 rfl rfl (by decide) rfl ?_
                          refine am_goto fx 17 dX7_findSet_136 (by decide) ?_
                          refine am_sub [true, true, true, true, false, false] rfl ?_
                          exact ih (4096 - (r + 1)) (by omega) (r + 1)  _ _ rfl (by omega) (bst_keep hBr hBc hBm (Or.inr ⟨c108.symm, by omega⟩))
                        · try simp (disch := omega) only [bz_0, Classical.not_not, Int32.not_le, Int32.not_lt, Nat.not_le, Nat.not_lt, nI_leI, nI_ltI, nI_eq, nI_le0, nI_lt0] at c119
                          refine am_aload_n fx dX7_findSet_122 rfl ?_
                          refine am_iload_n fx dX7_findSet_123 rfl ?_
                          refine am_putI fx dX7_findSet_124 fkX7_148 (by decide) (by decide) rfl rfl (so7 hb2) ?_
                          refine am_aload_n fx dX7_findSet_127 rfl ?_
                          refine am_iload fx dX7_findSet_128 rfl ?_
                          refine am_putI fx dX7_findSet_130 fkX7_151 (by decide) (by decide) rfl rfl (so7 hb2) ?_
                          first | refine am_iinc fx dX7_findSet_133 rfl (nI_inc _) (by decide) rfl ?_ | refine am_iinc fx dX7_findSet_133 rfl rfl (by decide) rfl ?_
                          refine am_goto fx 17 dX7_findSet_136 (by decide) ?_
                          refine am_sub [true, true, true, true, false, false] rfl ?_
                          exact am_mem (s2_up _ _ _ _ _) (ih (4096 - (r + 1)) (by omega) (r + 1)  _ _ rfl (by omega) (bst_new hcn hBm (Or.inr ⟨c108, by omega⟩)))
                · try simp (disch := omega) only [bz_0, Classical.not_not, Int32.not_le, Int32.not_lt, Nat.not_le, Nat.not_lt, nI_leI, nI_ltI, nI_eq, nI_le0, nI_lt0] at c51
                  refine am_iload fx dX7_findSet_54 rfl ?_
                  refine am_aload_n fx dX7_findSet_56 rfl ?_
                  refine am_getR fx dX7_findSet_57 fkX7_13 (by decide) (by decide) rfl (so7 hb2) (rf7_4 hb2) ?_
                  refine am_iload fx dX7_findSet_60 rfl ?_
                  refine am_zald (j := j) fx dX7_findSet_62 (sa7_4 hb2) rfl (by omega) (by decide) ((mI_ne (Or.inl (by decide))).trans ((mI_ne (Or.inl (by decide))).trans (hh j (by omega)))) ?_
                  refine am_if_eq fx 70 dX7_findSet_63 (by decide) (fun c63 => ?_) (fun c63 => ?_)
                  · skip
                    have c63 : lr j = true := Classical.not_not.mp (bz_0.mp c63)
                    refine am_aload_n fx dX7_findSet_70 rfl ?_
                    refine am_iload_n fx dX7_findSet_71 rfl ?_
                    refine am_iload fx dX7_findSet_72 rfl ?_
                    refine am_callV fx dX7_findSet_74 mkX7_157 (ct_X7_leastOf hb2 hm2 (X := r) (by omega) j (by omega)) (so7 hb2) ⟨by decide, rfl⟩ rfl (Nat.le_of_ble_eq_true rfl) ⟨by decide, by decide⟩ ⟨Nat.le_of_ble_eq_true rfl, Nat.le_of_ble_eq_true rfl⟩ rfl ?_
                    rintro _ _ ⟨rfl, rfl⟩
                    refine am_iadd fx dX7_findSet_77 ?_
                    refine am_topi (show _ = smQ lr (fun i => lfM r.testBit (fun s => cs s i) S) (j + 1) by simp only [smQ]; rw [if_pos c63]) ?_
                    refine am_istore fx dX7_findSet_78 (by decide) rfl ?_
                    first | refine am_iinc fx dX7_findSet_80 rfl (nI_inc _) (by decide) rfl ?_ | refine am_iinc fx dX7_findSet_80 rfl rfl (by decide) rfl ?_
                    refine am_goto fx 45 dX7_findSet_83 (by decide) ?_
                    exact ih2 (N - (j + 1)) (by omega) (j + 1) rfl (by omega)
                  · skip
                    have c63 : ¬ lr j = true := Classical.not_not.mp (fun z => c63 (bz_0.mpr z))
                    refine am_iconst (v := 0) fx dX7_findSet_66 (by decide) ?_
                    refine am_goto fx 77 dX7_findSet_67 (by decide) ?_
                    refine am_iadd fx dX7_findSet_77 ?_
                    refine am_topi (show _ = smQ lr (fun i => lfM r.testBit (fun s => cs s i) S) (j + 1) by simp only [smQ]; rw [if_neg c63]) ?_
                    refine am_istore fx dX7_findSet_78 (by decide) rfl ?_
                    first | refine am_iinc fx dX7_findSet_80 rfl (nI_inc _) (by decide) rfl ?_ | refine am_iinc fx dX7_findSet_80 rfl rfl (by decide) rfl ?_
                    refine am_goto fx 45 dX7_findSet_83 (by decide) ?_
                    exact ih2 (N - (j + 1)) (by omega) (j + 1) rfl (by omega)
            exact lp45 _ 0 rfl (Nat.zero_le _)
  refine am_sub [true, true, true, true, false, false] rfl ?_
  exact lp17 _ 0 (-1) 0 rfl (Nat.zero_le _) (Or.inl ⟨rfl, fun Y hY => absurd hY (by omega)⟩)
set_option maxRecDepth 100000 in
set_option maxHeartbeats 4000000 in
theorem ct_X7_portfolio {E : am_E} {μ : am_M} (hb : Bs μ) {S N : Nat} {cs : Nat → Nat → Int32} (hm : Mt μ S N cs) {lr : Nat → Bool} (hh : ∀ i, i < N → mm_I μ 48 i = bz (¬ lr i = true)) (hex : ∀ k, 1 ≤ k → k ≤ (cnt (bitsN (whM cs N) S).testBit 12) → ∃ Y, Y < 4096 ∧ cnX (bitsN (whM cs N) S) k Y) (x y : Int32) : am_Ct E yX7_portfolio cX7_portfolio 5 (some .int) rmX7_portfolio [.ref 46, .int x, .int y] μ (fun v μ' => (x < 1 ∧ v = some (.int (-2)) ∧ μ' = mm_sI μ 46 0 0) ∨ (¬ x < 1 ∧ nI (cnt (bitsN (whM cs N) S).testBit 12) < x ∧ v = some (.int (-3)) ∧ μ' = mm_sI μ 46 0 0) ∨ (∃ k, x = nI k ∧ 1 ≤ k ∧ k ≤ (cnt (bitsN (whM cs N) S).testBit 12) ∧ ((¬ (-1 ≤ y ∧ y ≤ nI (k - 1)) ∧ v = some (.int (-1)) ∧ μ' = mm_sI μ 46 0 0) ∨ ((-1 ≤ y ∧ y ≤ nI (k - 1)) ∧ ∃ B, B < 4096 ∧ μ' = mm_sI (mm_sI (mm_sI μ 46 0 0) 46 26 (nI B)) 46 27 ((smX lr cs S N) B) ∧ cnX (bitsN (whM cs N) S) k B ∧ (∀ Y, Y < 4096 → cnX (bitsN (whM cs N) S) k Y → bsC (smX lr cs S N) B Y) ∧ v = some (.int (if y < 0 then (smX lr cs S N) B else enO (-1) (kth (fun s => Nat.testBit B s) 12 y.toNatClampNeg))))))) := by
  refine am_Ct.of (ls := [some (.ref 46), some (.int x), some (.int y), none, none]) (by decide) (Nat.le_of_ble_eq_true rfl) rfl (fun C fx hnm => ?_)
  have hS := hm.s
  have hN := hm.n
  have hAL : (bitsN (whM cs N) S) < 4096 := Nat.lt_of_lt_of_le (bitsN_lt _ S) (Nat.pow_le_pow_right (by decide) hS)
  have hc12 := cnt_le (bitsN (whM cs N) S).testBit 12
  refine am_aload_n fx dX7_portfolio_0 rfl ?_
  refine am_iconst (v := 0) fx dX7_portfolio_1 (by decide) ?_
  refine am_putI fx dX7_portfolio_2 fkX7_43 (by decide) (by decide) rfl rfl (so7 hb) ?_
  have hb : Bs (mm_sI μ 46 0 0) := hb.fr (Fr.sI _ _ _ _)
  have hm : Mt (mm_sI μ 46 0 0) S N cs := hm.keep (mI_ne (Or.inr (by decide))) (mI_ne (Or.inr (by decide))) (fun k => mI_ne (Or.inl (by decide)))
  have hh : ∀ i, i < N → mm_I (mm_sI μ 46 0 0) 48 i = bz (¬ lr i = true) := fun i hi => (mI_ne (Or.inl (by decide))).trans (hh i hi)
  obtain ⟨μ0, hM0⟩ : ∃ z, z = mm_sI μ 46 0 0 := ⟨_, rfl⟩
  rw [← hM0] at hb hm hh
  refine am_mem hM0.symm ?_
  refine am_iload_n fx dX7_portfolio_5 rfl ?_
  refine am_iconst (v := 1) fx dX7_portfolio_6 (by decide) ?_
  refine am_icmp_ge fx 13 dX7_portfolio_7 (by decide) (fun c7 => ?_) (fun c7 => ?_)
  · skip
    refine am_aload_n fx dX7_portfolio_13 rfl ?_
    refine am_callV fx dX7_portfolio_14 mkX7_145 (ct_X7_wholes hb hm) (so7 hb) ⟨by decide, rfl⟩ rfl (Nat.le_of_ble_eq_true rfl) ⟨by decide, by decide⟩ ⟨Nat.le_of_ble_eq_true rfl, Nat.le_of_ble_eq_true rfl⟩ rfl ?_
    rintro _ _ ⟨rfl, rfl⟩
    refine am_callS fx dX7_portfolio_17 mkX7_154 (ct_X7_many (X := (bitsN (whM cs N) S)) hAL) rfl (Nat.le_of_ble_eq_true rfl) ⟨by decide, by decide⟩ ⟨Nat.le_of_ble_eq_true rfl, Nat.le_of_ble_eq_true rfl⟩ rfl ?_
    rintro _ _ ⟨rfl, rfl⟩
    refine am_iload_n fx dX7_portfolio_20 rfl ?_
    refine am_icmp_ge fx 27 dX7_portfolio_21 (by decide) (fun c21 => ?_) (fun c21 => ?_)
    · skip
      obtain ⟨k, hk, hxk⟩ := nI_of (Int32.not_lt.mpr (Int32.le_trans (show (0 : Int32) ≤ 1 by decide) c7))
      have hk1 : 1 ≤ k := by
        rw [hxk] at c7
        exact (nI_leI (a := 1) (by decide) hk).mp c7
      have hkc : k ≤ (cnt (bitsN (whM cs N) S).testBit 12) := by
        rw [hxk] at c21
        exact (nI_leI hk (by omega)).mp c21
      refine am_iload_n fx dX7_portfolio_27 rfl ?_
      refine am_iconst (v := (-1)) fx dX7_portfolio_28 (by decide) ?_
      refine am_iload_n fx dX7_portfolio_29 rfl ?_
      refine am_iconst (v := 1) fx dX7_portfolio_30 (by decide) ?_
      refine am_isub fx dX7_portfolio_31 ?_
      refine am_topi (show _ = nI (k - 1) by rw [hxk]; exact nI_pred1 (by omega)) ?_
      refine am_callS fx dX7_portfolio_32 mkX7_49 (ct_X7_in _ _ _) rfl (Nat.le_of_ble_eq_true rfl) ⟨by decide, by decide⟩ ⟨Nat.le_of_ble_eq_true rfl, Nat.le_of_ble_eq_true rfl⟩ rfl ?_
      rintro _ _ ⟨rfl, rfl⟩
      refine am_if_ne fx 40 dX7_portfolio_35 (by decide) (fun c35 => ?_) (fun c35 => ?_)
      · try simp (disch := omega) only [bz_0, Classical.not_not, Int32.not_le, Int32.not_lt, Nat.not_le, Nat.not_lt, nI_leI, nI_ltI, nI_eq, nI_le0, nI_lt0] at c35
        refine am_aload_n fx dX7_portfolio_40 rfl ?_
        refine am_iload_n fx dX7_portfolio_41 rfl ?_
        refine am_topi hxk ?_
        refine am_callV fx dX7_portfolio_42 mkX7_164 (ct_X7_findSet hb hm hh k (by omega)) (so7 hb) ⟨by decide, rfl⟩ rfl (Nat.le_of_ble_eq_true rfl) ⟨by decide, by decide⟩ ⟨Nat.le_of_ble_eq_true rfl, Nat.le_of_ble_eq_true rfl⟩ rfl ?_
        rintro _ ν ⟨rfl, bs, bm, hν, hB⟩
        obtain ⟨B, hBr, rfl, rfl, hBc, hBm⟩ := bst_some hB (fun z => by
          obtain ⟨Y, hY1, hY2⟩ := hex k hk1 hkc
          exact bst_neg hB (by omega) z Y hY1 hY2)
        obtain ⟨Mf, hMf⟩ : ∃ z, z = ν := ⟨_, rfl⟩
        rw [← hMf] at hν ⊢
        have hbf : Bs Mf := by
          rw [hν]
          exact hb.fr ⟨rfl, rfl, rfl⟩
        have e26 : mm_I Mf 46 26 = nI B := by
          rw [hν]
          exact (mI_ne (Or.inr (by decide))).trans (mI_same _ _ _ _)
        have e27 : mm_I Mf 46 27 = (smX lr cs S N) B := by
          rw [hν]
          exact mI_same _ _ _ _
        rw [hM0] at hν
        refine am_iload_n fx dX7_portfolio_45 rfl ?_
        refine am_if_ge fx 54 dX7_portfolio_46 (by decide) (fun c46 => ?_) (fun c46 => ?_)
        · skip
          refine am_iconst (v := 0) fx dX7_portfolio_54 (by decide) ?_
          refine am_istore_n fx dX7_portfolio_55 (by decide) rfl ?_
          refine am_iconst (v := 0) fx dX7_portfolio_56 (by decide) ?_
          refine am_istore fx dX7_portfolio_57 (by decide) rfl ?_
          have lp59 : ∀ (mz : Nat) (r : Nat) (z : Int32), 12 - r = mz → r ≤ 12 → z = nI (cnt (fun s => Nat.testBit B s) r) → (∀ j, j < r → Nat.testBit B j = true → ¬ nI (cnt (fun s => Nat.testBit B s) j) = y) → am_W E C (am_MQ E C (fun v μ' => (x < 1 ∧ v = some (.int (-2)) ∧ μ' = mm_sI μ 46 0 0) ∨ (¬ x < 1 ∧ nI (cnt (bitsN (whM cs N) S).testBit 12) < x ∧ v = some (.int (-3)) ∧ μ' = mm_sI μ 46 0 0) ∨ (∃ k, x = nI k ∧ 1 ≤ k ∧ k ≤ (cnt (bitsN (whM cs N) S).testBit 12) ∧ ((¬ (-1 ≤ y ∧ y ≤ nI (k - 1)) ∧ v = some (.int (-1)) ∧ μ' = mm_sI μ 46 0 0) ∨ ((-1 ≤ y ∧ y ≤ nI (k - 1)) ∧ ∃ B, B < 4096 ∧ μ' = mm_sI (mm_sI (mm_sI μ 46 0 0) 46 26 (nI B)) 46 27 ((smX lr cs S N) B) ∧ cnX (bitsN (whM cs N) S) k B ∧ (∀ Y, Y < 4096 → cnX (bitsN (whM cs N) S) k Y → bsC (smX lr cs S N) B Y) ∧ v = some (.int (if y < 0 then (smX lr cs S N) B else enO (-1) (kth (fun s => Nat.testBit B s) 12 y.toNatClampNeg))))))) (rmX7_portfolio).cells (rmX7_portfolio).slots) Mf 0 0 59 [some (.ref 46), some (.int x), some (.int y), some (.int z), some (.int (nI r))] [] := by
            intro mz
            induction mz using Nat.strongRecOn with
            | ind mz ih =>
              intro r z hz hr1 hx hno
              have hc := cnt_le (fun s => Nat.testBit B s) r
              refine am_iload fx dX7_portfolio_59 rfl ?_
              refine am_bipush (v := (nI 12)) fx dX7_portfolio_61 (by decide) ?_
              refine am_icmp_ge fx 96 dX7_portfolio_63 (by decide) (fun c63 => ?_) (fun c63 => ?_)
              · try simp (disch := omega) only [bz_0, Classical.not_not, Int32.not_le, Int32.not_lt, Nat.not_le, Nat.not_lt, nI_leI, nI_ltI, nI_eq, nI_le0, nI_lt0] at c63
                refine am_iconst (v := (-1)) fx dX7_portfolio_96 (by decide) ?_
                exact am_iret fx dX7_portfolio_97 (Or.inr (Or.inr ⟨k, hxk, hk1, hkc, Or.inr ⟨c35, B, hBr, hν, hBc, hBm, by rw [if_neg (Int32.not_lt.mpr c46)]; exact (rem_no (n := 12) (by omega) (fun j hj h2 => hno j (by omega) h2)).trans (by rw [if_pos c46])⟩⟩))
              · try simp (disch := omega) only [bz_0, Classical.not_not, Int32.not_le, Int32.not_lt, Nat.not_le, Nat.not_lt, nI_leI, nI_ltI, nI_eq, nI_le0, nI_lt0] at c63
                refine am_aload_n fx dX7_portfolio_66 rfl ?_
                refine am_getI fx dX7_portfolio_67 fkX7_148 (by decide) (by decide) rfl (so7 hbf) e26 ?_
                refine am_iload fx dX7_portfolio_70 rfl ?_
                refine am_ishr fx dX7_portfolio_72 ?_
                refine am_iconst (v := 1) fx dX7_portfolio_73 (by decide) ?_
                refine am_iand fx dX7_portfolio_74 ?_
                refine am_topi (sh_bit (by omega) (by omega)) ?_
                refine am_iconst (v := 1) fx dX7_portfolio_75 (by decide) ?_
                refine am_icmp_ne fx 90 dX7_portfolio_76 (by decide) (fun c76 => ?_) (fun c76 => ?_)
                · skip
                  have c76 : ¬ Nat.testBit B r = true := fun z => c76 (by rw [z]; rfl)
                  first | refine am_iinc fx dX7_portfolio_90 rfl (nI_inc _) (by decide) rfl ?_ | refine am_iinc fx dX7_portfolio_90 rfl rfl (by decide) rfl ?_
                  refine am_goto fx 59 dX7_portfolio_93 (by decide) ?_
                  exact ih (12 - (r + 1)) (by omega) (r + 1) _ rfl (by omega) (by rw [hx, cnt, if_neg c76]; rfl) (fun j h1 h2 => by rcases Nat.lt_or_ge j r with z | z; exact hno j z h2; rw [show j = r by omega] at h2 ⊢; exact absurd h2 c76)
                · skip
                  have c76 : Nat.testBit B r = true := by
                    cases hq : Nat.testBit B r with
                    | true => rfl
                    | false =>
                      rw [hq] at c76
                      exact absurd c76 (by decide)
                  refine am_iload_n fx dX7_portfolio_79 rfl ?_
                  refine am_iload_n fx dX7_portfolio_80 rfl ?_
                  refine am_icmp_ne fx 87 dX7_portfolio_81 (by decide) (fun c81 => ?_) (fun c81 => ?_)
                  · skip
                    first | refine am_iinc fx dX7_portfolio_87 rfl (nI_inc _) (by decide) rfl ?_ | refine am_iinc fx dX7_portfolio_87 rfl rfl (by decide) rfl ?_
                    first | refine am_iinc fx dX7_portfolio_90 rfl (nI_inc _) (by decide) rfl ?_ | refine am_iinc fx dX7_portfolio_90 rfl rfl (by decide) rfl ?_
                    refine am_goto fx 59 dX7_portfolio_93 (by decide) ?_
                    exact ih (12 - (r + 1)) (by omega) (r + 1) _ rfl (by omega) (by rw [hx, cnt, if_pos c76]; exact nI_inc _) (fun j h1 h2 => by rcases Nat.lt_or_ge j r with z | z; exact hno j z h2; rw [show j = r by omega] at h2 ⊢; rw [← hx]; exact c81)
                  · skip
                    refine am_iload fx dX7_portfolio_84 rfl ?_
                    exact am_iret fx dX7_portfolio_86 (Or.inr (Or.inr ⟨k, hxk, hk1, hkc, Or.inr ⟨c35, B, hBr, hν, hBc, hBm, by rw [if_neg (Int32.not_lt.mpr c46)]; exact (rem_in (by omega) c76 (hx ▸ c81) (by omega) (fun j hj h2 => hno j hj h2)).trans (by rw [if_pos c46])⟩⟩))
          exact lp59 _ 0 _ rfl (by omega) rfl (fun j h => by omega)
        · skip
          refine am_aload_n fx dX7_portfolio_49 rfl ?_
          refine am_getI fx dX7_portfolio_50 fkX7_151 (by decide) (by decide) rfl (so7 hbf) e27 ?_
          exact am_iret fx dX7_portfolio_53 (Or.inr (Or.inr ⟨k, hxk, hk1, hkc, Or.inr ⟨c35, B, hBr, hν, hBc, hBm, by rw [if_pos (Int32.not_le.mp c46)]⟩⟩))
      · try simp (disch := omega) only [bz_0, Classical.not_not, Int32.not_le, Int32.not_lt, Nat.not_le, Nat.not_lt, nI_leI, nI_ltI, nI_eq, nI_le0, nI_lt0] at c35
        refine am_iconst (v := (-1)) fx dX7_portfolio_38 (by decide) ?_
        exact am_iret fx dX7_portfolio_39 (Or.inr (Or.inr ⟨k, hxk, hk1, hkc, Or.inl ⟨c35, rfl, hM0⟩⟩))
    · skip
      refine am_bipush (v := (-3)) fx dX7_portfolio_24 (by decide) ?_
      exact am_iret fx dX7_portfolio_26 (Or.inr (Or.inl ⟨Int32.not_lt.mpr c7, Int32.not_le.mp c21, rfl, hM0⟩))
  · skip
    refine am_bipush (v := (-2)) fx dX7_portfolio_10 (by decide) ?_
    exact am_iret fx dX7_portfolio_12 (Or.inl ⟨Int32.not_le.mp c7, rfl, hM0⟩)
