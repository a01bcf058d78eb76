/-! the model: its cut -/
theorem smQ_nat {P : Nat → Bool} {c : Nat → Int32} : ∀ {n : Nat}, (∀ i, i < n → P i = true → ∃ a : Nat, a ≤ 2000000 ∧ c i = nI a) → ∃ m : Nat, m ≤ 2000000 * n ∧ smQ P c n = nI m
  | 0, _ => ⟨0, by omega, rfl⟩
  | n + 1, h => by
    obtain ⟨m, h1, h2⟩ := smQ_nat (n := n) (fun i hi => h i (by omega))
    simp only [smQ]
    by_cases hp : P n = true
    · obtain ⟨a, h3, h4⟩ := h n (by omega) hp
      exact ⟨m + a, by omega, by rw [if_pos hp, h2, h4, nI_add]⟩
    · exact ⟨m, by omega, by rw [if_neg hp, h2, Int32.add_zero]⟩
theorem cs_nat {x : Int32} (h : x = -1 ∨ (0 ≤ x ∧ x ≤ 2000000)) (hn : ¬ x = -1) : ∃ a : Nat, a ≤ 2000000 ∧ x = nI a := by
  obtain ⟨a, ha, rfl⟩ := nI_of (Int32.not_lt.mpr (h.resolve_left hn).1)
  exact ⟨a, (nI_leI (b := 2000000) ha (by decide)).mp (h.resolve_left hn).2, rfl⟩
abbrev fldM (ν : am_M) : stS := (mm_I ν 46 32, mm_I ν 46 28, mm_I ν 46 29, mm_I ν 46 30, mm_I ν 46 31)
def Kst (μ ν : am_M) : Prop := Fr μ ν ∧ (∀ a k, (a ≠ 46 ∨ k < 28) → mm_I ν a k = mm_I μ a k) ∧ (∀ a k, mm_L ν a k = mm_L μ a k)
theorem Kst.rf (μ : am_M) : Kst μ μ := ⟨Fr.rf μ, fun _ _ _ => rfl, fun _ _ => rfl⟩
theorem Kst.sI {μ ν : am_M} (h : Kst μ ν) {k : Nat} (hk : 28 ≤ k) (v : Int32) : Kst μ (mm_sI ν 46 k v) := ⟨h.1.tr (Fr.sI _ _ _ _), fun a j hj => (mI_ne (by omega)).trans (h.2.1 a j hj), h.2.2⟩
theorem Mt.kst {μ ν : am_M} {S N : Nat} {cs : Nat → Nat → Int32} (hm : Mt μ S N cs) (h : Kst μ ν) : Mt ν S N cs := hm.keep (h.2.1 _ _ (Or.inr (by decide))) (h.2.1 _ _ (Or.inr (by decide))) (fun k => h.2.1 _ _ (Or.inl (by decide)))
def rng0 (x : Int32) : Prop := 0 ≤ x ∧ x < 2147483647
theorem stS_step {wh : Nat → Bool} {S : Nat} {B F : Nat → Int32} {f c : Int32} {st : stS} {b h : Nat} (h1 : am1 wh B S = some b) (h2 : am1 wh F S = some h) : stStep wh S B F f c st = if B b + F h < st.1 then (B b + F h, f, c, nI b, nI h) else st := by
  unfold stStep
  rw [h1, h2]
theorem bits_ex {b : Nat → Bool} : ∀ {n : Nat}, ¬ bitsN b n = 0 → ∃ s, s < n ∧ b s = true
  | 0, h => absurd rfl h
  | n + 1, h => by
    by_cases hb : b n = true
    · exact ⟨n, by omega, hb⟩
    · simp only [bitsN, if_neg hb, Nat.add_zero] at h
      obtain ⟨s, h1, h2⟩ := bits_ex h
      exact ⟨s, by omega, h2⟩
set_option maxRecDepth 100000 in
set_option maxHeartbeats 4000000 in
theorem ct_X7_sideBest {E : am_E} {μ : am_M} (hb : Bs μ) {S N : Nat} {cs : Nat → Nat → Int32} (hm : Mt μ S N cs) {lr : Nat → Bool} (hh : ∀ i, i < N → mm_I μ 48 i = bz (¬ lr i = true)) {fe : Nat → Nat → Int32} (hf : ∀ f i, f < 2 → i < N → mm_I μ 47 (2 * i + f) = fe f i) (f c : Nat) (bl : Int32) (hf2 : f < 2) {P : Nat → Bool} (hP : ∀ i, i < N → (P i = true ↔ lr i = true ∧ bz (fe f i < nI c) = bl)) : am_Ct E yX7_sideBest cX7_sideBest 8 (some .int) rmX7_sideBest [.ref 46, .int (nI f), .int (nI c), .int bl] μ (fun v μ' => v = some (.int (enO (-1) (am1 (whM cs N) (fun s => smQ P (cs s) N) S))) ∧ ∃ x, μ' = (mm_sI μ 46 33 x) ∧ ∀ b, (am1 (whM cs N) (fun s => smQ P (cs s) N) S) = some b → x = smQ P (cs b) N) := by
  refine am_Ct.of (ls := [some (.ref 46), some (.int (nI f)), some (.int (nI c)), some (.int bl), none, none, none, none]) (by decide) (Nat.le_of_ble_eq_true rfl) rfl (fun C fx hnm => ?_)
  have hS := hm.s
  have hN := hm.n
  refine am_iconst (v := (-1)) fx dX7_sideBest_0 (by decide) ?_
  refine am_istore fx dX7_sideBest_1 (by decide) rfl ?_
  refine am_iconst (v := 0) fx dX7_sideBest_3 (by decide) ?_
  refine am_istore fx dX7_sideBest_4 (by decide) rfl ?_
  have lp6 : ∀ (mz : Nat) (r : Nat) (x y : Int32), S - r = mz → r ≤ S → y = enO (-1) (am1 (whM cs N) (fun s => smQ P (cs s) N) r) → (∀ b, (am1 (whM cs N) (fun s => smQ P (cs s) N) r) = some b → x = smQ P (cs b) N) → am_W E C (am_MQ E C (fun v μ' => v = some (.int (enO (-1) (am1 (whM cs N) (fun s => smQ P (cs s) N) S))) ∧ ∃ x, μ' = (mm_sI μ 46 33 x) ∧ ∀ b, (am1 (whM cs N) (fun s => smQ P (cs s) N) S) = some b → x = smQ P (cs b) N) (rmX7_sideBest).cells (rmX7_sideBest).slots) (mm_sI μ 46 33 x) 0 0 6 [some (.ref 46), some (.int (nI f)), some (.int (nI c)), some (.int bl), some (.int y), some (.int (nI r)), none, none] [] := by
    intro mz
    induction mz using Nat.strongRecOn with
    | ind mz ih =>
      intro r x y hz hr hy hx
      have hb2 : Bs (mm_sI μ 46 33 x) := hb.fr (Fr.sI _ _ _ _)
      have hm2 : Mt (mm_sI μ 46 33 x) S N cs := hm.keep (mI_ne (Or.inr (by decide))) (mI_ne (Or.inr (by decide))) (fun k => mI_ne (Or.inl (by decide)))
      have hlt : ∀ b, (am1 (whM cs N) (fun s => smQ P (cs s) N) r) = some b → b < r := fun b hb9 => (am1_lt hb9).1
      refine am_iload fx dX7_sideBest_6 rfl ?_
      refine am_aload_n fx dX7_sideBest_8 rfl ?_
      refine am_getI fx dX7_sideBest_9 fkX7_46 (by decide) (by decide) rfl (so7 hb2) hm2.1 ?_
      refine am_icmp_ge fx 126 dX7_sideBest_12 (by decide) (fun c12 => ?_) (fun c12 => ?_)
      · try simp (disch := omega) only [bz_0, Classical.not_not, Int32.not_le, Int32.not_lt, Nat.not_le, Nat.not_lt, nI_leI, nI_ltI, nI_eq, nI_le0, nI_lt0] at c12
        refine am_iload fx dX7_sideBest_126 rfl ?_
        exact am_iret fx dX7_sideBest_128 ⟨by rw [hy, show r = S by omega], x, rfl, by rw [← show r = S by omega]; exact hx⟩
      · try simp (disch := omega) only [bz_0, Classical.not_not, Int32.not_le, Int32.not_lt, Nat.not_le, Nat.not_lt, nI_leI, nI_ltI, nI_eq, nI_le0, nI_lt0] at c12
        refine am_aload_n fx dX7_sideBest_15 rfl ?_
        refine am_iload fx dX7_sideBest_16 rfl ?_
        refine am_callV fx dX7_sideBest_18 mkX7_142 (ct_X7_isWhole hb2 hm2 r (by omega)) (so7 hb2) ⟨by decide, rfl⟩ rfl (Nat.le_of_ble_eq_true rfl) ⟨by decide, by decide⟩ ⟨Nat.le_of_ble_eq_true rfl, Nat.le_of_ble_eq_true rfl⟩ rfl ?_
        rintro _ _ ⟨rfl, rfl⟩
        refine am_if_eq fx 120 dX7_sideBest_21 (by decide) (fun c21 => ?_) (fun c21 => ?_)
        · try simp (disch := omega) only [bz_0, Classical.not_not, Int32.not_le, Int32.not_lt, Nat.not_le, Nat.not_lt, nI_leI, nI_ltI, nI_eq, nI_le0, nI_lt0] at c21
          first | refine am_iinc fx dX7_sideBest_120 rfl (nI_inc _) (by decide) rfl ?_ | refine am_iinc fx dX7_sideBest_120 rfl rfl (by decide) rfl ?_
          refine am_goto fx 6 dX7_sideBest_123 (by decide) ?_
          refine am_sub [true, true, true, true, true, true, false, false] rfl ?_
          exact ih (S - (r + 1)) (by omega) (r + 1) x y rfl (by omega) (by rw [am1_n c21]; exact hy) (fun b hb9 => hx b (by rw [← am1_n (c := (fun s => smQ P (cs s) N)) c21]; exact hb9))
        · try simp (disch := omega) only [bz_0, Classical.not_not, Int32.not_le, Int32.not_lt, Nat.not_le, Nat.not_lt, nI_leI, nI_ltI, nI_eq, nI_le0, nI_lt0] at c21
          refine am_iconst (v := 0) fx dX7_sideBest_24 (by decide) ?_
          refine am_istore fx dX7_sideBest_25 (by decide) rfl ?_
          refine am_iconst (v := 0) fx dX7_sideBest_27 (by decide) ?_
          refine am_istore fx dX7_sideBest_28 (by decide) rfl ?_
          have lp30 : ∀ (mz : Nat) (j : Nat), N - j = mz → j ≤ N → am_W E C (am_MQ E C (fun v μ' => v = some (.int (enO (-1) (am1 (whM cs N) (fun s => smQ P (cs s) N) S))) ∧ ∃ x, μ' = (mm_sI μ 46 33 x) ∧ ∀ b, (am1 (whM cs N) (fun s => smQ P (cs s) N) S) = some b → x = smQ P (cs b) N) (rmX7_sideBest).cells (rmX7_sideBest).slots) (mm_sI μ 46 33 x) 0 0 30 [some (.ref 46), some (.int (nI f)), some (.int (nI c)), some (.int bl), some (.int y), some (.int (nI r)), some (.int (smQ P (cs r) j)), some (.int (nI j))] [] := by
            intro mz
            induction mz using Nat.strongRecOn with
            | ind mz ih2 =>
              intro j hz2 hj
              refine am_iload fx dX7_sideBest_30 rfl ?_
              refine am_aload_n fx dX7_sideBest_32 rfl ?_
              refine am_getI fx dX7_sideBest_33 fkX7_53 (by decide) (by decide) rfl (so7 hb2) hm2.2.1 ?_
              refine am_icmp_ge fx 96 dX7_sideBest_36 (by decide) (fun c36 => ?_) (fun c36 => ?_)
              · try simp (disch := omega) only [bz_0, Classical.not_not, Int32.not_le, Int32.not_lt, Nat.not_le, Nat.not_lt, nI_leI, nI_ltI, nI_eq, nI_le0, nI_lt0] at c36
                rw [show j = N by omega]
                refine am_iload fx dX7_sideBest_96 rfl ?_
                refine am_if_lt fx 110 dX7_sideBest_98 (by decide) (fun c98 => ?_) (fun c98 => ?_)
                · skip
                  have c98 : (am1 (whM cs N) (fun s => smQ P (cs s) N) r) = none := enO_neg (hy ▸ c98) (fun b hb9 => by have := hlt b hb9; omega)
                  refine am_iload fx dX7_sideBest_110 rfl ?_
                  refine am_istore fx dX7_sideBest_112 (by decide) rfl ?_
                  refine am_aload_n fx dX7_sideBest_114 rfl ?_
                  refine am_iload fx dX7_sideBest_115 rfl ?_
                  refine am_putI fx dX7_sideBest_117 fkX7_174 (by decide) (by decide) rfl rfl (so7 hb2) ?_
                  first | refine am_iinc fx dX7_sideBest_120 rfl (nI_inc _) (by decide) rfl ?_ | refine am_iinc fx dX7_sideBest_120 rfl rfl (by decide) rfl ?_
                  refine am_goto fx 6 dX7_sideBest_123 (by decide) ?_
                  refine am_sub [true, true, true, true, true, true, false, false] rfl ?_
                  exact am_mem (sI_sI _ _ _ _ _) (ih (S - (r + 1)) (by omega) (r + 1) _ _ rfl (by omega) (by rw [am1_a c21 c98]; rfl) (fun b hb9 => by rw [am1_a c21 c98] at hb9; cases hb9; rfl))
                · skip
                  obtain ⟨b, hbs⟩ := enO_nn (by decide) (hy ▸ c98)
                  refine am_iload fx dX7_sideBest_101 rfl ?_
                  refine am_aload_n fx dX7_sideBest_103 rfl ?_
                  refine am_getI fx dX7_sideBest_104 fkX7_174 (by decide) (by decide) rfl (so7 hb2) ((mI_same _ _ _ _).trans (hx b hbs)) ?_
                  refine am_icmp_ge fx 120 dX7_sideBest_107 (by decide) (fun c107 => ?_) (fun c107 => ?_)
                  · skip
                    have c107 := Int32.not_lt.mpr c107
                    first | refine am_iinc fx dX7_sideBest_120 rfl (nI_inc _) (by decide) rfl ?_ | refine am_iinc fx dX7_sideBest_120 rfl rfl (by decide) rfl ?_
                    refine am_goto fx 6 dX7_sideBest_123 (by decide) ?_
                    refine am_sub [true, true, true, true, true, true, false, false] rfl ?_
                    exact ih (S - (r + 1)) (by omega) (r + 1) x y rfl (by omega) (by rw [am1_c hbs c107, hy, hbs]) (fun b9 hb9 => by rw [am1_c hbs c107] at hb9; cases hb9; exact hx b hbs)
                  · skip
                    have c107 := Int32.not_le.mp c107
                    refine am_iload fx dX7_sideBest_110 rfl ?_
                    refine am_istore fx dX7_sideBest_112 (by decide) rfl ?_
                    refine am_aload_n fx dX7_sideBest_114 rfl ?_
                    refine am_iload fx dX7_sideBest_115 rfl ?_
                    refine am_putI fx dX7_sideBest_117 fkX7_174 (by decide) (by decide) rfl rfl (so7 hb2) ?_
                    first | refine am_iinc fx dX7_sideBest_120 rfl (nI_inc _) (by decide) rfl ?_ | refine am_iinc fx dX7_sideBest_120 rfl rfl (by decide) rfl ?_
                    refine am_goto fx 6 dX7_sideBest_123 (by decide) ?_
                    refine am_sub [true, true, true, true, true, true, false, false] rfl ?_
                    exact am_mem (sI_sI _ _ _ _ _) (ih (S - (r + 1)) (by omega) (r + 1) _ _ rfl (by omega) (by rw [am1_b c21 hbs c107]; rfl) (fun b9 hb9 => by rw [am1_b c21 hbs c107] at hb9; cases hb9; rfl))
              · try simp (disch := omega) only [bz_0, Classical.not_not, Int32.not_le, Int32.not_lt, Nat.not_le, Nat.not_lt, nI_leI, nI_ltI, nI_eq, nI_le0, nI_lt0] at c36
                refine am_iload fx dX7_sideBest_39 rfl ?_
                refine am_aload_n fx dX7_sideBest_41 rfl ?_
                refine am_getR fx dX7_sideBest_42 fkX7_13 (by decide) (by decide) rfl (so7 hb2) (rf7_4 hb2) ?_
                refine am_iload fx dX7_sideBest_45 rfl ?_
                refine am_zald (j := j) fx dX7_sideBest_47 (sa7_4 hb2) rfl (by omega) (by decide) ((mI_ne (Or.inl (by decide))).trans (hh j (by omega))) ?_
                refine am_if_ne fx 86 dX7_sideBest_48 (by decide) (fun c48 => ?_) (fun c48 => ?_)
                · skip
                  have c48 : ¬ lr j = true := Classical.not_not.mp (fun z => c48 (bz_0.mpr z))
                  refine am_iconst (v := 0) fx dX7_sideBest_86 (by decide) ?_
                  refine am_iadd fx dX7_sideBest_87 ?_
                  refine am_topi (show _ = smQ P (cs r) (j + 1) by simp only [smQ]; rw [if_neg (fun z => c48 ((hP j (by omega)).mp z).1)]) ?_
                  refine am_istore fx dX7_sideBest_88 (by decide) rfl ?_
                  first | refine am_iinc fx dX7_sideBest_90 rfl (nI_inc _) (by decide) rfl ?_ | refine am_iinc fx dX7_sideBest_90 rfl rfl (by decide) rfl ?_
                  refine am_goto fx 30 dX7_sideBest_93 (by decide) ?_
                  exact ih2 (N - (j + 1)) (by omega) (j + 1) rfl (by omega)
                · skip
                  have c48 : lr j = true := Classical.not_not.mp (bz_0.mp c48)
                  refine am_aload_n fx dX7_sideBest_51 rfl ?_
                  refine am_getR fx dX7_sideBest_52 fkX7_7 (by decide) (by decide) rfl (so7 hb2) (rf7_3 hb2) ?_
                  refine am_iconst (v := (nI 2)) fx dX7_sideBest_55 (by decide) ?_
                  refine am_iload fx dX7_sideBest_56 rfl ?_
                  refine am_imul fx dX7_sideBest_58 ?_
                  refine am_topi (pk_mul 2 j) ?_
                  refine am_iload_n fx dX7_sideBest_59 rfl ?_
                  refine am_iadd fx dX7_sideBest_60 ?_
                  refine am_topi (nI_add _ _) ?_
                  refine am_iald (j := (2 * j + f)) fx dX7_sideBest_61 (sa7_3 hb2) rfl (by omega) (by decide) ((mI_ne (Or.inl (by decide))).trans (hf f j hf2 (by omega))) ?_
                  refine am_iload_n fx dX7_sideBest_62 rfl ?_
                  refine am_icmp_ge fx 70 dX7_sideBest_63 (by decide) (fun c63 => ?_) (fun c63 => ?_)
                  · skip
                    have c63 : bz (fe f j < nI c) = 0 := bz_0.mpr (Int32.not_lt.mpr c63)
                    refine am_iconst (v := 0) fx dX7_sideBest_70 (by decide) ?_
                    refine am_iload_n fx dX7_sideBest_71 rfl ?_
                    refine am_icmp_ne fx 86 dX7_sideBest_72 (by decide) (fun c72 => ?_) (fun c72 => ?_)
                    · skip
                      refine am_iconst (v := 0) fx dX7_sideBest_86 (by decide) ?_
                      refine am_iadd fx dX7_sideBest_87 ?_
                      refine am_topi (show _ = smQ P (cs r) (j + 1) by simp only [smQ]; rw [if_neg (fun z => c72 (c63.symm.trans ((hP j (by omega)).mp z).2))]) ?_
                      refine am_istore fx dX7_sideBest_88 (by decide) rfl ?_
                      first | refine am_iinc fx dX7_sideBest_90 rfl (nI_inc _) (by decide) rfl ?_ | refine am_iinc fx dX7_sideBest_90 rfl rfl (by decide) rfl ?_
                      refine am_goto fx 30 dX7_sideBest_93 (by decide) ?_
                      exact ih2 (N - (j + 1)) (by omega) (j + 1) rfl (by omega)
                    · skip
                      refine am_aload_n fx dX7_sideBest_75 rfl ?_
                      refine am_iload fx dX7_sideBest_76 rfl ?_
                      refine am_iload fx dX7_sideBest_78 rfl ?_
                      refine am_callV fx dX7_sideBest_80 mkX7_65 (ct_X7_costAt hb2 hm2 r j (by omega) (by omega)) (so7 hb2) ⟨by decide, rfl⟩ rfl (Nat.le_of_ble_eq_true rfl) ⟨by decide, by decide⟩ ⟨Nat.le_of_ble_eq_true rfl, Nat.le_of_ble_eq_true rfl⟩ rfl ?_
                      rintro _ _ ⟨rfl, rfl⟩
                      refine am_goto fx 87 dX7_sideBest_83 (by decide) ?_
                      refine am_iadd fx dX7_sideBest_87 ?_
                      refine am_topi (show _ = smQ P (cs r) (j + 1) by simp only [smQ]; rw [if_pos ((hP j (by omega)).mpr ⟨c48, c63.trans c72⟩)]) ?_
                      refine am_istore fx dX7_sideBest_88 (by decide) rfl ?_
                      first | refine am_iinc fx dX7_sideBest_90 rfl (nI_inc _) (by decide) rfl ?_ | refine am_iinc fx dX7_sideBest_90 rfl rfl (by decide) rfl ?_
                      refine am_goto fx 30 dX7_sideBest_93 (by decide) ?_
                      exact ih2 (N - (j + 1)) (by omega) (j + 1) rfl (by omega)
                  · skip
                    have c63 : bz (fe f j < nI c) = 1 := bz_1.mpr (Int32.not_le.mp c63)
                    refine am_iconst (v := 1) fx dX7_sideBest_66 (by decide) ?_
                    refine am_goto fx 71 dX7_sideBest_67 (by decide) ?_
                    refine am_iload_n fx dX7_sideBest_71 rfl ?_
                    refine am_icmp_ne fx 86 dX7_sideBest_72 (by decide) (fun c72 => ?_) (fun c72 => ?_)
                    · skip
                      refine am_iconst (v := 0) fx dX7_sideBest_86 (by decide) ?_
                      refine am_iadd fx dX7_sideBest_87 ?_
                      refine am_topi (show _ = smQ P (cs r) (j + 1) by simp only [smQ]; rw [if_neg (fun z => c72 (c63.symm.trans ((hP j (by omega)).mp z).2))]) ?_
                      refine am_istore fx dX7_sideBest_88 (by decide) rfl ?_
                      first | refine am_iinc fx dX7_sideBest_90 rfl (nI_inc _) (by decide) rfl ?_ | refine am_iinc fx dX7_sideBest_90 rfl rfl (by decide) rfl ?_
                      refine am_goto fx 30 dX7_sideBest_93 (by decide) ?_
                      exact ih2 (N - (j + 1)) (by omega) (j + 1) rfl (by omega)
                    · skip
                      refine am_aload_n fx dX7_sideBest_75 rfl ?_
                      refine am_iload fx dX7_sideBest_76 rfl ?_
                      refine am_iload fx dX7_sideBest_78 rfl ?_
                      refine am_callV fx dX7_sideBest_80 mkX7_65 (ct_X7_costAt hb2 hm2 r j (by omega) (by omega)) (so7 hb2) ⟨by decide, rfl⟩ rfl (Nat.le_of_ble_eq_true rfl) ⟨by decide, by decide⟩ ⟨Nat.le_of_ble_eq_true rfl, Nat.le_of_ble_eq_true rfl⟩ rfl ?_
                      rintro _ _ ⟨rfl, rfl⟩
                      refine am_goto fx 87 dX7_sideBest_83 (by decide) ?_
                      refine am_iadd fx dX7_sideBest_87 ?_
                      refine am_topi (show _ = smQ P (cs r) (j + 1) by simp only [smQ]; rw [if_pos ((hP j (by omega)).mpr ⟨c48, c63.trans c72⟩)]) ?_
                      refine am_istore fx dX7_sideBest_88 (by decide) rfl ?_
                      first | refine am_iinc fx dX7_sideBest_90 rfl (nI_inc _) (by decide) rfl ?_ | refine am_iinc fx dX7_sideBest_90 rfl rfl (by decide) rfl ?_
                      refine am_goto fx 30 dX7_sideBest_93 (by decide) ?_
                      exact ih2 (N - (j + 1)) (by omega) (j + 1) rfl (by omega)
          exact lp30 _ 0 rfl (Nat.zero_le _)
  refine am_sub [true, true, true, true, true, true, false, false] rfl ?_
  exact am_mem (sI_self μ 46 33 rfl).symm (lp6 _ 0 _ _ rfl (Nat.zero_le _) rfl (fun b hb9 => by simp [am1] at hb9))
set_option maxRecDepth 100000 in
set_option maxHeartbeats 4000000 in
theorem ct_X7_findStump {E : am_E} {μ : am_M} (hb : Bs μ) {S N : Nat} {cs : Nat → Nat → Int32} (hm : Mt μ S N cs) {lr : Nat → Bool} (hh : ∀ i, i < N → mm_I μ 48 i = bz (¬ lr i = true)) {fe : Nat → Nat → Int32} (hf : ∀ f i, f < 2 → i < N → mm_I μ 47 (2 * i + f) = fe f i) (F0 C0 : Int32) (hwh : ∃ s, s < S ∧ whM cs N s = true) : am_Ct E yX7_findStump cX7_findStump 6 none rmX7_findStump [.ref 46] μ (fun v μ' => v = none ∧ Kst μ μ' ∧ fldM μ' = (stF (whM cs N) lr S N fe cs (2147483647, F0, C0, -1, -1) 2)) := by
  refine am_Ct.of (ls := [some (.ref 46), none, none, none, none, none]) (by decide) (Nat.le_of_ble_eq_true rfl) rfl (fun C fx hnm => ?_)
  have hS := hm.s
  have hN := hm.n
  refine am_aload_n fx dX7_findStump_0 rfl ?_
  refine am_iconst (v := (-1)) fx dX7_findStump_1 (by decide) ?_
  refine am_putI fx dX7_findStump_2 fkX7_177 (by decide) (by decide) rfl rfl (so7 hb) ?_
  refine am_iconst (v := 0) fx dX7_findStump_5 (by decide) ?_
  refine am_istore_n fx dX7_findStump_6 (by decide) rfl ?_
  have lp7 : ∀ (mz : Nat) (f : Nat) (ν : am_M), 2 - f = mz → f ≤ 2 → Kst μ ν → ((f = 0 ∧ mm_I ν 46 32 = -1) ∨ (fldM ν = (stF (whM cs N) lr S N fe cs (2147483647, F0, C0, -1, -1) f) ∧ rng0 (stF (whM cs N) lr S N fe cs (2147483647, F0, C0, -1, -1) f).1)) → am_W E C (am_MQ E C (fun v μ' => v = none ∧ Kst μ μ' ∧ fldM μ' = (stF (whM cs N) lr S N fe cs (2147483647, F0, C0, -1, -1) 2)) (rmX7_findStump).cells (rmX7_findStump).slots) ν 0 0 7 [some (.ref 46), some (.int (nI f)), none, none, none, none] [] := by
    intro mz
    induction mz using Nat.strongRecOn with
    | ind mz ih =>
      intro f ν hz hf2 hK hR
      refine am_iload_n fx dX7_findStump_7 rfl ?_
      refine am_iconst (v := (nI 2)) fx dX7_findStump_8 (by decide) ?_
      refine am_icmp_ge fx 107 dX7_findStump_9 (by decide) (fun c9 => ?_) (fun c9 => ?_)
      · try simp (disch := omega) only [bz_0, Classical.not_not, Int32.not_le, Int32.not_lt, Nat.not_le, Nat.not_lt, nI_leI, nI_ltI, nI_eq, nI_le0, nI_lt0] at c9
        exact am_vret fx dX7_findStump_107 ⟨rfl, hK, by have h9 := hR.resolve_left (fun z => by omega); rw [show 2 = f by omega]; exact h9.1⟩
      · try simp (disch := omega) only [bz_0, Classical.not_not, Int32.not_le, Int32.not_lt, Nat.not_le, Nat.not_lt, nI_leI, nI_ltI, nI_eq, nI_le0, nI_lt0] at c9
        refine am_iconst (v := (nI 1)) fx dX7_findStump_12 (by decide) ?_
        refine am_istore_n fx dX7_findStump_13 (by decide) rfl ?_
        have lp14 : ∀ (mz : Nat) (k : Nat) (ν2 : am_M), 100 - k = mz → k ≤ 100 → Kst μ ν2 → ((f = 0 ∧ k = 0 ∧ mm_I ν2 46 32 = -1) ∨ (fldM ν2 = (stC (whM cs N) lr S N (fe f) cs (nI f) k (stF (whM cs N) lr S N fe cs (2147483647, F0, C0, -1, -1) f)) ∧ rng0 (stC (whM cs N) lr S N (fe f) cs (nI f) k (stF (whM cs N) lr S N fe cs (2147483647, F0, C0, -1, -1) f)).1)) → am_W E C (am_MQ E C (fun v μ' => v = none ∧ Kst μ μ' ∧ fldM μ' = (stF (whM cs N) lr S N fe cs (2147483647, F0, C0, -1, -1) 2)) (rmX7_findStump).cells (rmX7_findStump).slots) ν2 0 0 14 [some (.ref 46), some (.int (nI f)), some (.int (nI (k + 1))), none, none, none] [] := by
          intro mz
          induction mz using Nat.strongRecOn with
          | ind mz ih2 =>
            intro k ν2 hz2 hk hK2 hR2
            have hbn : Bs ν2 := hb.fr hK2.1
            have hmn : Mt ν2 S N cs := hm.kst hK2
            have hhn : ∀ i, i < N → mm_I ν2 48 i = bz (¬ lr i = true) := fun i hi => (hK2.2.1 _ _ (Or.inl (by decide))).trans (hh i hi)
            have hfn : ∀ f i, f < 2 → i < N → mm_I ν2 47 (2 * i + f) = fe f i := fun f i h1 h2 => (hK2.2.1 _ _ (Or.inl (by decide))).trans (hf f i h1 h2)
            refine am_iload_n fx dX7_findStump_14 rfl ?_
            refine am_bipush (v := (nI 100)) fx dX7_findStump_15 (by decide) ?_
            refine am_icmp_gt fx 101 dX7_findStump_17 (by decide) (fun c17 => ?_) (fun c17 => ?_)
            · try simp (disch := omega) only [bz_0, Classical.not_not, Int32.not_le, Int32.not_lt, Nat.not_le, Nat.not_lt, nI_leI, nI_ltI, nI_eq, nI_le0, nI_lt0] at c17
              first | refine am_iinc fx dX7_findStump_101 rfl (nI_inc _) (by decide) rfl ?_ | refine am_iinc fx dX7_findStump_101 rfl rfl (by decide) rfl ?_
              refine am_goto fx 7 dX7_findStump_104 (by decide) ?_
              refine am_sub [true, true, false, false, false, false] rfl ?_
              rw [show k = 100 by omega] at hR2
              exact ih (2 - (f + 1)) (by omega) (f + 1) ν2 rfl (by omega) hK2 (hR2.elim (fun z => absurd z.2.1 (by decide)) Or.inr)
            · try simp (disch := omega) only [bz_0, Classical.not_not, Int32.not_le, Int32.not_lt, Nat.not_le, Nat.not_lt, nI_leI, nI_ltI, nI_eq, nI_le0, nI_lt0] at c17
              refine am_aload_n fx dX7_findStump_20 rfl ?_
              refine am_iload_n fx dX7_findStump_21 rfl ?_
              refine am_iload_n fx dX7_findStump_22 rfl ?_
              refine am_iconst (v := 1) fx dX7_findStump_23 (by decide) ?_
              refine am_callV fx dX7_findStump_24 mkX7_180 (ct_X7_sideBest hbn hmn hhn hfn f (k + 1) 1 (by omega) (P := (ltP lr (fe f) (k + 1))) (fun i hi => by simp only [ltP, Bool.and_eq_true, decide_eq_true_eq, bz_1])) (so7 hbn) ⟨by decide, rfl⟩ rfl (Nat.le_of_ble_eq_true rfl) ⟨by decide, by decide⟩ ⟨Nat.le_of_ble_eq_true rfl, Nat.le_of_ble_eq_true rfl⟩ rfl ?_
              rintro _ ν3 ⟨rfl, x1, hν3, hx1⟩
              obtain ⟨w9, hw1, hw2⟩ := hwh
              obtain ⟨b1, hb1⟩ := am1_ex (p := (whM cs N)) (c := fun s => smQ (ltP lr (fe f) (k + 1)) (cs s) N) hw1 hw2
              obtain ⟨h1, hh1⟩ := am1_ex (p := (whM cs N)) (c := fun s => smQ (geP lr (fe f) (k + 1)) (cs s) N) hw1 hw2
              have hx1b := hx1 b1 hb1
              have hK3 : Kst μ ν3 := by
                rw [hν3]
                exact hK2.sI (by decide) _
              have hb3 : Bs ν3 := hb.fr hK3.1
              have hm3 : Mt ν3 S N cs := hm.kst hK3
              have hh3 : ∀ i, i < N → mm_I ν3 48 i = bz (¬ lr i = true) := fun i hi => (hK3.2.1 _ _ (Or.inl (by decide))).trans (hh i hi)
              have hf3 : ∀ f i, f < 2 → i < N → mm_I ν3 47 (2 * i + f) = fe f i := fun f i h1 h2 => (hK3.2.1 _ _ (Or.inl (by decide))).trans (hf f i h1 h2)
              have e33 : mm_I ν3 46 33 = smQ (ltP lr (fe f) (k + 1)) (cs b1) N := by
                rw [hν3, mI_same, hx1b]
              rw [hb1]
              refine am_istore_n fx dX7_findStump_27 (by decide) rfl ?_
              refine am_aload_n fx dX7_findStump_28 rfl ?_
              refine am_getI fx dX7_findStump_29 fkX7_174 (by decide) (by decide) rfl (so7 hb3) e33 ?_
              refine am_istore fx dX7_findStump_32 (by decide) rfl ?_
              refine am_aload_n fx dX7_findStump_34 rfl ?_
              refine am_iload_n fx dX7_findStump_35 rfl ?_
              refine am_iload_n fx dX7_findStump_36 rfl ?_
              refine am_iconst (v := 0) fx dX7_findStump_37 (by decide) ?_
              refine am_callV fx dX7_findStump_38 mkX7_180 (ct_X7_sideBest hb3 hm3 hh3 hf3 f (k + 1) 0 (by omega) (P := (geP lr (fe f) (k + 1))) (fun i hi => by simp only [geP, Bool.and_eq_true, decide_eq_true_eq, bz_0])) (so7 hb3) ⟨by decide, rfl⟩ rfl (Nat.le_of_ble_eq_true rfl) ⟨by decide, by decide⟩ ⟨Nat.le_of_ble_eq_true rfl, Nat.le_of_ble_eq_true rfl⟩ rfl ?_
              rintro _ ν4 ⟨rfl, x2, hν4, hx2⟩
              have hx2b := hx2 h1 hh1
              have hK4 : Kst μ ν4 := by
                rw [hν4]
                exact hK3.sI (by decide) _
              have hb4 : Bs ν4 := hb.fr hK4.1
              have e34 : mm_I ν4 46 33 = smQ (geP lr (fe f) (k + 1)) (cs h1) N := by
                rw [hν4, mI_same, hx2b]
              have hk9 : ∀ k, k ≠ 33 → mm_I ν4 46 k = mm_I ν2 46 k := fun k hk => by
                rw [hν4, mI_ne (Or.inr hk), hν3, mI_ne (Or.inr hk)]
              have hfl : ((f = 0 ∧ k = 0 ∧ mm_I ν4 46 32 = -1) ∨ (fldM ν4 = (stC (whM cs N) lr S N (fe f) cs (nI f) k (stF (whM cs N) lr S N fe cs (2147483647, F0, C0, -1, -1) f)) ∧ rng0 (stC (whM cs N) lr S N (fe f) cs (nI f) k (stF (whM cs N) lr S N fe cs (2147483647, F0, C0, -1, -1) f)).1)) := by
                have h0 : fldM ν4 = fldM ν2 := by
                  simp only [fldM, hk9 32 (by decide), hk9 28 (by decide), hk9 29 (by decide), hk9 30 (by decide), hk9 31 (by decide)]
                rw [h0, hk9 32 (by decide)]
                exact hR2
              have hrg : rng0 (smQ (ltP lr (fe f) (k + 1)) (cs b1) N + smQ (geP lr (fe f) (k + 1)) (cs h1) N) := by
                have hcs : ∀ s, s < S → whM cs N s = true → ∀ i, i < N → ∃ a : Nat, a ≤ 2000000 ∧ cs s i = nI a := fun s hs hw i hi => cs_nat (hm.2.2.2.2.2 s i (by omega) (by omega)) (whM_iff.mp hw i hi)
                obtain ⟨m1, q1, q2⟩ := smQ_nat (P := (ltP lr (fe f) (k + 1))) (c := cs b1) (n := N) (fun i hi _ => hcs b1 (am1_lt hb1).1 (am1_lt hb1).2 i hi)
                obtain ⟨m2, q3, q4⟩ := smQ_nat (P := (geP lr (fe f) (k + 1))) (c := cs h1) (n := N) (fun i hi _ => hcs h1 (am1_lt hh1).1 (am1_lt hh1).2 i hi)
                rw [q2, q4, nI_add]
                exact ⟨nI_pos' (by omega), (nI_ltI (b := 2147483647) (by omega) (by decide)).mpr (by omega)⟩
              have h32 : mm_I ν4 46 32 = mm_I ν4 46 32 := rfl
              rw [hh1]
              refine am_istore fx dX7_findStump_41 (by decide) rfl ?_
              refine am_iload fx dX7_findStump_43 rfl ?_
              refine am_aload_n fx dX7_findStump_45 rfl ?_
              refine am_getI fx dX7_findStump_46 fkX7_174 (by decide) (by decide) rfl (so7 hb4) e34 ?_
              refine am_iadd fx dX7_findStump_49 ?_
              refine am_istore fx dX7_findStump_50 (by decide) rfl ?_
              refine am_aload_n fx dX7_findStump_52 rfl ?_
              refine am_getI fx dX7_findStump_53 fkX7_177 (by decide) (by decide) rfl (so7 hb4) rfl ?_
              refine am_if_lt fx 68 dX7_findStump_56 (by decide) (fun c56 => ?_) (fun c56 => ?_)
              · skip
                refine am_aload_n fx dX7_findStump_68 rfl ?_
                refine am_iload fx dX7_findStump_69 rfl ?_
                refine am_putI fx dX7_findStump_71 fkX7_177 (by decide) (by decide) rfl rfl (so7 hb4) ?_
                refine am_aload_n fx dX7_findStump_74 rfl ?_
                refine am_iload_n fx dX7_findStump_75 rfl ?_
                refine am_putI fx dX7_findStump_76 fkX7_184 (by decide) (by decide) rfl rfl (so7 hb4) ?_
                refine am_aload_n fx dX7_findStump_79 rfl ?_
                refine am_iload_n fx dX7_findStump_80 rfl ?_
                refine am_putI fx dX7_findStump_81 fkX7_187 (by decide) (by decide) rfl rfl (so7 hb4) ?_
                refine am_aload_n fx dX7_findStump_84 rfl ?_
                refine am_iload_n fx dX7_findStump_85 rfl ?_
                refine am_putI fx dX7_findStump_86 fkX7_190 (by decide) (by decide) rfl rfl (so7 hb4) ?_
                refine am_aload_n fx dX7_findStump_89 rfl ?_
                refine am_iload fx dX7_findStump_90 rfl ?_
                refine am_putI fx dX7_findStump_92 fkX7_193 (by decide) (by decide) rfl rfl (so7 hb4) ?_
                first | refine am_iinc fx dX7_findStump_95 rfl (nI_inc _) (by decide) rfl ?_ | refine am_iinc fx dX7_findStump_95 rfl rfl (by decide) rfl ?_
                refine am_goto fx 14 dX7_findStump_98 (by decide) ?_
                refine am_sub [true, true, true, false, false, false] rfl ?_
                exact ih2 (100 - (k + 1)) (by omega) (k + 1) (mm_sI (mm_sI (mm_sI (mm_sI (mm_sI ν4 46 32 (smQ (ltP lr (fe f) (k + 1)) (cs b1) N + smQ (geP lr (fe f) (k + 1)) (cs h1) N)) 46 28 (nI f)) 46 29 (nI (k + 1))) 46 30 (nI b1)) 46 31 (nI h1)) rfl (by omega) (((((hK4.sI (by decide) _).sI (by decide) _).sI (by decide) _).sI (by decide) _).sI (by decide) _) (Or.inr (by
                  have e8 : (stC (whM cs N) lr S N (fe f) cs (nI f) (k + 1) (stF (whM cs N) lr S N fe cs (2147483647, F0, C0, -1, -1) f)) = (smQ (ltP lr (fe f) (k + 1)) (cs b1) N + smQ (geP lr (fe f) (k + 1)) (cs h1) N, nI f, nI (k + 1), nI b1, nI h1) := by
                    show stStep _ _ _ _ _ _ _ = _
                    rw [stS_step hb1 hh1, if_pos (hfl.elim (fun z => by rw [show (stC (whM cs N) lr S N (fe f) cs (nI f) k (stF (whM cs N) lr S N fe cs (2147483647, F0, C0, -1, -1) f)) = (2147483647, F0, C0, -1, -1) by obtain ⟨z1, z2, _⟩ := z; subst z1; subst z2; rfl]; exact hrg.2) (fun z => by rw [h32] at c56; have h9 : mm_I ν4 46 32 = _ := congrArg Prod.fst z.1; rw [h9] at c56; exact absurd c56 (Int32.not_lt.mpr z.2.1)))]
                  rw [e8]
                  refine ⟨?_, hrg⟩
                  simp only [fldM, mI_sI]
                  rfl))
              · skip
                refine am_iload fx dX7_findStump_59 rfl ?_
                refine am_aload_n fx dX7_findStump_61 rfl ?_
                refine am_getI fx dX7_findStump_62 fkX7_177 (by decide) (by decide) rfl (so7 hb4) rfl ?_
                refine am_icmp_ge fx 95 dX7_findStump_65 (by decide) (fun c65 => ?_) (fun c65 => ?_)
                · skip
                  first | refine am_iinc fx dX7_findStump_95 rfl (nI_inc _) (by decide) rfl ?_ | refine am_iinc fx dX7_findStump_95 rfl rfl (by decide) rfl ?_
                  refine am_goto fx 14 dX7_findStump_98 (by decide) ?_
                  refine am_sub [true, true, true, false, false, false] rfl ?_
                  exact ih2 (100 - (k + 1)) (by omega) (k + 1) ν4 rfl (by omega) hK4 (Or.inr (by
                    have e9 := (hfl.resolve_left (fun z => c56 (by rw [h32, z.2.2]; decide)))
                    have e8 : (stC (whM cs N) lr S N (fe f) cs (nI f) (k + 1) (stF (whM cs N) lr S N fe cs (2147483647, F0, C0, -1, -1) f)) = (stC (whM cs N) lr S N (fe f) cs (nI f) k (stF (whM cs N) lr S N fe cs (2147483647, F0, C0, -1, -1) f)) := by
                      show stStep _ _ _ _ _ _ _ = _
                      rw [stS_step hb1 hh1, if_neg (by rw [← e9.1]; show ¬ _ < mm_I ν4 46 32; rw [h32]; exact Int32.not_lt.mpr c65)]
                    rw [e8]
                    exact e9))
                · skip
                  have c65 := Int32.not_le.mp c65
                  refine am_aload_n fx dX7_findStump_68 rfl ?_
                  refine am_iload fx dX7_findStump_69 rfl ?_
                  refine am_putI fx dX7_findStump_71 fkX7_177 (by decide) (by decide) rfl rfl (so7 hb4) ?_
                  refine am_aload_n fx dX7_findStump_74 rfl ?_
                  refine am_iload_n fx dX7_findStump_75 rfl ?_
                  refine am_putI fx dX7_findStump_76 fkX7_184 (by decide) (by decide) rfl rfl (so7 hb4) ?_
                  refine am_aload_n fx dX7_findStump_79 rfl ?_
                  refine am_iload_n fx dX7_findStump_80 rfl ?_
                  refine am_putI fx dX7_findStump_81 fkX7_187 (by decide) (by decide) rfl rfl (so7 hb4) ?_
                  refine am_aload_n fx dX7_findStump_84 rfl ?_
                  refine am_iload_n fx dX7_findStump_85 rfl ?_
                  refine am_putI fx dX7_findStump_86 fkX7_190 (by decide) (by decide) rfl rfl (so7 hb4) ?_
                  refine am_aload_n fx dX7_findStump_89 rfl ?_
                  refine am_iload fx dX7_findStump_90 rfl ?_
                  refine am_putI fx dX7_findStump_92 fkX7_193 (by decide) (by decide) rfl rfl (so7 hb4) ?_
                  first | refine am_iinc fx dX7_findStump_95 rfl (nI_inc _) (by decide) rfl ?_ | refine am_iinc fx dX7_findStump_95 rfl rfl (by decide) rfl ?_
                  refine am_goto fx 14 dX7_findStump_98 (by decide) ?_
                  refine am_sub [true, true, true, false, false, false] rfl ?_
                  exact ih2 (100 - (k + 1)) (by omega) (k + 1) (mm_sI (mm_sI (mm_sI (mm_sI (mm_sI ν4 46 32 (smQ (ltP lr (fe f) (k + 1)) (cs b1) N + smQ (geP lr (fe f) (k + 1)) (cs h1) N)) 46 28 (nI f)) 46 29 (nI (k + 1))) 46 30 (nI b1)) 46 31 (nI h1)) rfl (by omega) (((((hK4.sI (by decide) _).sI (by decide) _).sI (by decide) _).sI (by decide) _).sI (by decide) _) (Or.inr (by
                    have e8 : (stC (whM cs N) lr S N (fe f) cs (nI f) (k + 1) (stF (whM cs N) lr S N fe cs (2147483647, F0, C0, -1, -1) f)) = (smQ (ltP lr (fe f) (k + 1)) (cs b1) N + smQ (geP lr (fe f) (k + 1)) (cs h1) N, nI f, nI (k + 1), nI b1, nI h1) := by
                      show stStep _ _ _ _ _ _ _ = _
                      rw [stS_step hb1 hh1, if_pos (by
                        have e9 := (hfl.resolve_left (fun z => c56 (by rw [h32, z.2.2]; decide)))
                        rw [← e9.1]
                        show _ < mm_I ν4 46 32
                        rw [h32]
                        exact c65)]
                    rw [e8]
                    refine ⟨?_, hrg⟩
                    simp only [fldM, mI_sI]
                    rfl))
        refine am_sub [true, true, true, false, false, false] rfl ?_
        exact lp14 _ 0 ν rfl (Nat.zero_le _) hK (hR.elim (fun z => Or.inl ⟨z.1, rfl, z.2⟩) Or.inr)
  refine am_sub [true, true, false, false, false, false] rfl ?_
  exact lp7 _ 0 _ rfl (by decide) ((Kst.rf μ).sI (by decide) _) (Or.inl ⟨rfl, mI_same _ _ _ _⟩)
set_option maxRecDepth 100000 in
set_option maxHeartbeats 4000000 in
theorem ct_X7_stump {E : am_E} {μ : am_M} (hb : Bs μ) {S N : Nat} {cs : Nat → Nat → Int32} (hm : Mt μ S N cs) {lr : Nat → Bool} (hh : ∀ i, i < N → mm_I μ 48 i = bz (¬ lr i = true)) {fe : Nat → Nat → Int32} (hf : ∀ f i, f < 2 → i < N → mm_I μ 47 (2 * i + f) = fe f i) (F0 C0 x : Int32) : am_Ct E yX7_stump cX7_stump 2 (some .int) rmX7_stump [.ref 46, .int x] μ (fun v μ' => (¬ (0 ≤ x ∧ x ≤ 4) ∧ v = some (.int (-2)) ∧ μ' = mm_sI μ 46 0 0) ∨ ((0 ≤ x ∧ x ≤ 4) ∧ (bitsN (whM cs N) S) = 0 ∧ v = some (.int (-3)) ∧ μ' = mm_sI μ 46 0 0) ∨ ((0 ≤ x ∧ x ≤ 4) ∧ ¬ (bitsN (whM cs N) S) = 0 ∧ Kst (mm_sI μ 46 0 0) μ' ∧ fldM μ' = (stF (whM cs N) lr S N fe cs (2147483647, F0, C0, -1, -1) 2) ∧ v = some (.int (if x = 0 then mm_I μ' 46 28 else if x = 1 then mm_I μ' 46 29 else if x = 2 then mm_I μ' 46 30 else if x = 3 then mm_I μ' 46 31 else mm_I μ' 46 32)))) := by
  refine am_Ct.of (ls := [some (.ref 46), some (.int x)]) (by decide) (Nat.le_of_ble_eq_true rfl) rfl (fun C fx hnm => ?_)
  have hS := hm.s
  have hN := hm.n
  have hAL : (bitsN (whM cs N) S) < 4096 := Nat.lt_of_lt_of_le (bitsN_lt _ S) (Nat.pow_le_pow_right (by decide) hS)
  refine am_aload_n fx dX7_stump_0 rfl ?_
  refine am_iconst (v := 0) fx dX7_stump_1 (by decide) ?_
  refine am_putI fx dX7_stump_2 fkX7_43 (by decide) (by decide) rfl rfl (so7 hb) ?_
  have hb : Bs (mm_sI μ 46 0 0) := hb.fr (Fr.sI _ _ _ _)
  have hm : Mt (mm_sI μ 46 0 0) S N cs := hm.keep (mI_ne (Or.inr (by decide))) (mI_ne (Or.inr (by decide))) (fun k => mI_ne (Or.inl (by decide)))
  have hh : ∀ i, i < N → mm_I (mm_sI μ 46 0 0) 48 i = bz (¬ lr i = true) := fun i hi => (mI_ne (Or.inl (by decide))).trans (hh i hi)
  have hf : ∀ f i, f < 2 → i < N → mm_I (mm_sI μ 46 0 0) 47 (2 * i + f) = fe f i := fun f i h1 h2 => (mI_ne (Or.inl (by decide))).trans (hf f i h1 h2)
  obtain ⟨μ0, hM0⟩ : ∃ z, z = mm_sI μ 46 0 0 := ⟨_, rfl⟩
  rw [← hM0] at hb hm hh hf
  refine am_mem hM0.symm ?_
  refine am_iload_n fx dX7_stump_5 rfl ?_
  refine am_iconst (v := 0) fx dX7_stump_6 (by decide) ?_
  refine am_iconst (v := 4) fx dX7_stump_7 (by decide) ?_
  refine am_callS fx dX7_stump_8 mkX7_49 (ct_X7_in _ _ _) rfl (Nat.le_of_ble_eq_true rfl) ⟨by decide, by decide⟩ ⟨Nat.le_of_ble_eq_true rfl, Nat.le_of_ble_eq_true rfl⟩ rfl ?_
  rintro _ _ ⟨rfl, rfl⟩
  refine am_if_ne fx 17 dX7_stump_11 (by decide) (fun c11 => ?_) (fun c11 => ?_)
  · try simp (disch := omega) only [bz_0, Classical.not_not, Int32.not_le, Int32.not_lt, Nat.not_le, Nat.not_lt, nI_leI, nI_ltI, nI_eq, nI_le0, nI_lt0] at c11
    refine am_aload_n fx dX7_stump_17 rfl ?_
    refine am_callV fx dX7_stump_18 mkX7_145 (ct_X7_wholes hb hm) (so7 hb) ⟨by decide, rfl⟩ rfl (Nat.le_of_ble_eq_true rfl) ⟨by decide, by decide⟩ ⟨Nat.le_of_ble_eq_true rfl, Nat.le_of_ble_eq_true rfl⟩ rfl ?_
    rintro _ _ ⟨rfl, rfl⟩
    refine am_if_ne fx 27 dX7_stump_21 (by decide) (fun c21 => ?_) (fun c21 => ?_)
    · skip
      have c21 : ¬ (bitsN (whM cs N) S) = 0 := fun z => c21 (by rw [z]; rfl)
      refine am_aload_n fx dX7_stump_27 rfl ?_
      refine am_callV fx dX7_stump_28 mkX7_196 (ct_X7_findStump hb hm hh hf F0 C0 (bits_ex c21)) (so7 hb) ⟨by decide, rfl⟩ rfl (Nat.le_of_ble_eq_true rfl) ⟨by decide, by decide⟩ ⟨Nat.le_of_ble_eq_true rfl, Nat.le_of_ble_eq_true rfl⟩ rfl ?_
      rintro _ ν ⟨rfl, hK, hfl⟩
      have hbn : Bs ν := hb.fr hK.1
      rw [hM0] at hK
      refine am_iload_n fx dX7_stump_31 rfl ?_
      refine am_if_ne fx 42 dX7_stump_32 (by decide) (fun c32 => ?_) (fun c32 => ?_)
      · skip
        refine am_iload_n fx dX7_stump_42 rfl ?_
        refine am_iconst (v := 1) fx dX7_stump_43 (by decide) ?_
        refine am_icmp_ne fx 54 dX7_stump_44 (by decide) (fun c44 => ?_) (fun c44 => ?_)
        · skip
          refine am_iload_n fx dX7_stump_54 rfl ?_
          refine am_iconst (v := 2) fx dX7_stump_55 (by decide) ?_
          refine am_icmp_ne fx 66 dX7_stump_56 (by decide) (fun c56 => ?_) (fun c56 => ?_)
          · skip
            refine am_iload_n fx dX7_stump_66 rfl ?_
            refine am_iconst (v := 3) fx dX7_stump_67 (by decide) ?_
            refine am_icmp_ne fx 78 dX7_stump_68 (by decide) (fun c68 => ?_) (fun c68 => ?_)
            · skip
              refine am_aload_n fx dX7_stump_78 rfl ?_
              refine am_getI fx dX7_stump_79 fkX7_177 (by decide) (by decide) rfl (so7 hbn) rfl ?_
              exact am_iret fx dX7_stump_82 (Or.inr (Or.inr ⟨c11, c21, hK, hfl, by rw [if_neg c32, if_neg c44, if_neg c56, if_neg c68]⟩))
            · skip
              refine am_aload_n fx dX7_stump_71 rfl ?_
              refine am_getI fx dX7_stump_72 fkX7_193 (by decide) (by decide) rfl (so7 hbn) rfl ?_
              refine am_goto fx 82 dX7_stump_75 (by decide) ?_
              exact am_iret fx dX7_stump_82 (Or.inr (Or.inr ⟨c11, c21, hK, hfl, by rw [if_neg c32, if_neg c44, if_neg c56, if_pos c68]⟩))
          · skip
            refine am_aload_n fx dX7_stump_59 rfl ?_
            refine am_getI fx dX7_stump_60 fkX7_190 (by decide) (by decide) rfl (so7 hbn) rfl ?_
            refine am_goto fx 82 dX7_stump_63 (by decide) ?_
            exact am_iret fx dX7_stump_82 (Or.inr (Or.inr ⟨c11, c21, hK, hfl, by rw [if_neg c32, if_neg c44, if_pos c56]⟩))
        · skip
          refine am_aload_n fx dX7_stump_47 rfl ?_
          refine am_getI fx dX7_stump_48 fkX7_187 (by decide) (by decide) rfl (so7 hbn) rfl ?_
          refine am_goto fx 82 dX7_stump_51 (by decide) ?_
          exact am_iret fx dX7_stump_82 (Or.inr (Or.inr ⟨c11, c21, hK, hfl, by rw [if_neg c32, if_pos c44]⟩))
      · skip
        refine am_aload_n fx dX7_stump_35 rfl ?_
        refine am_getI fx dX7_stump_36 fkX7_184 (by decide) (by decide) rfl (so7 hbn) rfl ?_
        refine am_goto fx 82 dX7_stump_39 (by decide) ?_
        exact am_iret fx dX7_stump_82 (Or.inr (Or.inr ⟨c11, c21, hK, hfl, by rw [if_pos c32]⟩))
    · skip
      have c21 : (bitsN (whM cs N) S) = 0 := (nI_eq (b := 0) (by omega) (by decide)).mp c21
      refine am_bipush (v := (-3)) fx dX7_stump_24 (by decide) ?_
      exact am_iret fx dX7_stump_26 (Or.inr (Or.inl ⟨c11, c21, rfl, hM0⟩))
  · try simp (disch := omega) only [bz_0, Classical.not_not, Int32.not_le, Int32.not_lt, Nat.not_le, Nat.not_lt, nI_leI, nI_ltI, nI_eq, nI_le0, nI_lt0] at c11
    refine am_bipush (v := (-2)) fx dX7_stump_14 (by decide) ?_
    exact am_iret fx dX7_stump_16 (Or.inl ⟨c11, rfl, hM0⟩)
