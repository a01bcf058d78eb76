/-! the model: held out ones, means -/
def coO (cs : Nat → Nat → Int32) (i : Nat) : Option Nat → Int32
  | none => -1
  | some s => cs s i
abbrev hlM (lr : Nat → Bool) : Nat → Bool := fun i => decide (¬ lr i = true)
theorem smQ_t {P : Nat → Bool} {c : Nat → Int32} {r : Nat} (h : P r = true) : smQ P c (r + 1) = smQ P c r + c r := by simp only [smQ, if_pos h]
theorem smQ_f {P : Nat → Bool} {c : Nat → Int32} {r : Nat} (h : ¬ P r = true) : smQ P c (r + 1) = smQ P c r := by simp only [smQ, if_neg h, Int32.add_zero]
set_option maxRecDepth 100000 in
set_option maxHeartbeats 1600000 in
theorem ct_X7_heldOutN {E : am_E} {μ : am_M} (hb : Bs μ) {S N : Nat} {cs : Nat → Nat → Int32} (hm : Mt μ S N cs) {lr : Nat → Bool} (hh : ∀ i, i < N → mm_I μ 48 i = bz (¬ lr i = true)) {fe : Nat → Nat → Int32} (hf : ∀ f i, f < 2 → i < N → mm_I μ 47 (2 * i + f) = fe f i) (x : Int32) (hno : ¬ (0 ≤ x ∧ x ≤ 3) ∨ (bitsN (whM cs N) S) = 0) : am_Ct E yX7_heldOut cX7_heldOut 6 (some .int) rmX7_heldOut [.ref 46, .int x] μ (fun v μ' => v = some (.int (if 0 ≤ x ∧ x ≤ 3 then -3 else -2)) ∧ μ' = mm_sI μ 46 0 0) := by
  refine am_Ct.of (ls := [some (.ref 46), some (.int x), none, none, none, none]) (by decide) (Nat.le_of_ble_eq_true rfl) rfl (fun C fx hnm => ?_)
  have hS := hm.s
  have hN := hm.n
  have hAL : (bitsN (whM cs N) S) < 4096 := Nat.lt_of_lt_of_le (bitsN_lt _ S) (Nat.pow_le_pow_right (by decide) hS)
  refine am_aload_n fx dX7_heldOut_0 rfl ?_
  refine am_iconst (v := 0) fx dX7_heldOut_1 (by decide) ?_
  refine am_putI fx dX7_heldOut_2 fkX7_43 (by decide) (by decide) rfl rfl (so7 hb) ?_
  have hb : Bs (mm_sI μ 46 0 0) := hb.fr (Fr.sI _ _ _ _)
  have hm : Mt (mm_sI μ 46 0 0) S N cs := hm.keep (mI_ne (Or.inr (by decide))) (mI_ne (Or.inr (by decide))) (fun k => mI_ne (Or.inl (by decide)))
  have hh : ∀ i, i < N → mm_I (mm_sI μ 46 0 0) 48 i = bz (¬ lr i = true) := fun i hi => (mI_ne (Or.inl (by decide))).trans (hh i hi)
  have hf : ∀ f i, f < 2 → i < N → mm_I (mm_sI μ 46 0 0) 47 (2 * i + f) = fe f i := fun f i h1 h2 => (mI_ne (Or.inl (by decide))).trans (hf f i h1 h2)
  obtain ⟨μ0, hM0⟩ : ∃ z, z = mm_sI μ 46 0 0 := ⟨_, rfl⟩
  rw [← hM0] at hb hm hh hf
  refine am_mem hM0.symm ?_
  refine am_iload_n fx dX7_heldOut_5 rfl ?_
  refine am_iconst (v := 0) fx dX7_heldOut_6 (by decide) ?_
  refine am_iconst (v := 3) fx dX7_heldOut_7 (by decide) ?_
  refine am_callS fx dX7_heldOut_8 mkX7_49 (ct_X7_in _ _ _) rfl (Nat.le_of_ble_eq_true rfl) ⟨by decide, by decide⟩ ⟨Nat.le_of_ble_eq_true rfl, Nat.le_of_ble_eq_true rfl⟩ rfl ?_
  rintro _ _ ⟨rfl, rfl⟩
  refine am_if_ne fx 17 dX7_heldOut_11 (by decide) (fun c11 => ?_) (fun c11 => ?_)
  · try simp (disch := omega) only [bz_0, Classical.not_not, Int32.not_le, Int32.not_lt, Nat.not_le, Nat.not_lt, nI_leI, nI_ltI, nI_eq, nI_le0, nI_lt0] at c11
    refine am_aload_n fx dX7_heldOut_17 rfl ?_
    refine am_callV fx dX7_heldOut_18 mkX7_145 (ct_X7_wholes hb hm) (so7 hb) ⟨by decide, rfl⟩ rfl (Nat.le_of_ble_eq_true rfl) ⟨by decide, by decide⟩ ⟨Nat.le_of_ble_eq_true rfl, Nat.le_of_ble_eq_true rfl⟩ rfl ?_
    rintro _ _ ⟨rfl, rfl⟩
    refine am_istore_n fx dX7_heldOut_21 (by decide) rfl ?_
    refine am_iload_n fx dX7_heldOut_22 rfl ?_
    refine am_if_ne fx 29 dX7_heldOut_23 (by decide) (fun c23 => ?_) (fun c23 => ?_)
    · skip
      exact absurd (by rw [hno.resolve_left (fun z => z c11)]; rfl) c23
    · skip
      refine am_bipush (v := (-3)) fx dX7_heldOut_26 (by decide) ?_
      exact am_iret fx dX7_heldOut_28 ⟨by rw [if_pos c11], hM0⟩
  · try simp (disch := omega) only [bz_0, Classical.not_not, Int32.not_le, Int32.not_lt, Nat.not_le, Nat.not_lt, nI_leI, nI_ltI, nI_eq, nI_le0, nI_lt0] at c11
    refine am_bipush (v := (-2)) fx dX7_heldOut_14 (by decide) ?_
    exact am_iret fx dX7_heldOut_16 ⟨by rw [if_neg c11], hM0⟩
set_option maxRecDepth 100000 in
set_option maxHeartbeats 1600000 in
theorem ct_X7_heldOut0 {E : am_E} {μ : am_M} (hb : Bs μ) {S N : Nat} {cs : Nat → Nat → Int32} (hm : Mt μ S N cs) {lr : Nat → Bool} (hh : ∀ i, i < N → mm_I μ 48 i = bz (¬ lr i = true)) {fe : Nat → Nat → Int32} (hf : ∀ f i, f < 2 → i < N → mm_I μ 47 (2 * i + f) = fe f i) (hne : ¬ (bitsN (whM cs N) S) = 0) : am_Ct E yX7_heldOut cX7_heldOut 6 (some .int) rmX7_heldOut [.ref 46, .int (nI 0)] μ (fun v μ' => μ' = mm_sI μ 46 0 0 ∧ ((∃ i, i < N ∧ ¬ lr i = true ∧ pkM lr fe cs S N i = none ∧ v = some (.int (-3))) ∨ ((∀ i, i < N → ¬ lr i = true → ¬ pkM lr fe cs S N i = none) ∧ v = some (.int (smQ (hlM lr) (fun i => coO cs i (pkM lr fe cs S N i)) N))))) := by
  refine am_Ct.of (ls := [some (.ref 46), some (.int (nI 0)), none, none, none, none]) (by decide) (Nat.le_of_ble_eq_true rfl) rfl (fun C fx hnm => ?_)
  have hS := hm.s
  have hN := hm.n
  have hAL : (bitsN (whM cs N) S) < 4096 := Nat.lt_of_lt_of_le (bitsN_lt _ S) (Nat.pow_le_pow_right (by decide) hS)
  refine am_aload_n fx dX7_heldOut_0 rfl ?_
  refine am_iconst (v := 0) fx dX7_heldOut_1 (by decide) ?_
  refine am_putI fx dX7_heldOut_2 fkX7_43 (by decide) (by decide) rfl rfl (so7 hb) ?_
  have hb : Bs (mm_sI μ 46 0 0) := hb.fr (Fr.sI _ _ _ _)
  have hm : Mt (mm_sI μ 46 0 0) S N cs := hm.keep (mI_ne (Or.inr (by decide))) (mI_ne (Or.inr (by decide))) (fun k => mI_ne (Or.inl (by decide)))
  have hh : ∀ i, i < N → mm_I (mm_sI μ 46 0 0) 48 i = bz (¬ lr i = true) := fun i hi => (mI_ne (Or.inl (by decide))).trans (hh i hi)
  have hf : ∀ f i, f < 2 → i < N → mm_I (mm_sI μ 46 0 0) 47 (2 * i + f) = fe f i := fun f i h1 h2 => (mI_ne (Or.inl (by decide))).trans (hf f i h1 h2)
  obtain ⟨μ0, hM0⟩ : ∃ z, z = mm_sI μ 46 0 0 := ⟨_, rfl⟩
  rw [← hM0] at hb hm hh hf
  refine am_mem hM0.symm ?_
  refine am_iload_n fx dX7_heldOut_5 rfl ?_
  refine am_iconst (v := 0) fx dX7_heldOut_6 (by decide) ?_
  refine am_iconst (v := 3) fx dX7_heldOut_7 (by decide) ?_
  refine am_callS fx dX7_heldOut_8 mkX7_49 (ct_X7_in _ _ _) rfl (Nat.le_of_ble_eq_true rfl) ⟨by decide, by decide⟩ ⟨Nat.le_of_ble_eq_true rfl, Nat.le_of_ble_eq_true rfl⟩ rfl ?_
  rintro _ _ ⟨rfl, rfl⟩
  refine am_if_ne fx 17 dX7_heldOut_11 (by decide) (fun c11 => ?_) (fun c11 => ?_)
  · skip
    refine am_aload_n fx dX7_heldOut_17 rfl ?_
    refine am_callV fx dX7_heldOut_18 mkX7_145 (ct_X7_wholes hb hm) (so7 hb) ⟨by decide, rfl⟩ rfl (Nat.le_of_ble_eq_true rfl) ⟨by decide, by decide⟩ ⟨Nat.le_of_ble_eq_true rfl, Nat.le_of_ble_eq_true rfl⟩ rfl ?_
    rintro _ _ ⟨rfl, rfl⟩
    refine am_istore_n fx dX7_heldOut_21 (by decide) rfl ?_
    refine am_iload_n fx dX7_heldOut_22 rfl ?_
    refine am_if_ne fx 29 dX7_heldOut_23 (by decide) (fun c23 => ?_) (fun c23 => ?_)
    · skip
      refine am_iload_n fx dX7_heldOut_29 rfl ?_
      refine am_iconst (v := 1) fx dX7_heldOut_30 (by decide) ?_
      refine am_icmp_ne fx 39 dX7_heldOut_31 (by decide) (fun c31 => ?_) (fun c31 => ?_)
      · skip
        refine am_iload_n fx dX7_heldOut_39 rfl ?_
        refine am_iconst (v := 3) fx dX7_heldOut_40 (by decide) ?_
        refine am_icmp_ne fx 48 dX7_heldOut_41 (by decide) (fun c41 => ?_) (fun c41 => ?_)
        · skip
          refine am_iconst (v := 0) fx dX7_heldOut_48 (by decide) ?_
          refine am_istore_n fx dX7_heldOut_49 (by decide) rfl ?_
          refine am_iconst (v := 0) fx dX7_heldOut_50 (by decide) ?_
          refine am_istore fx dX7_heldOut_51 (by decide) rfl ?_
          have lp53 : ∀ (mz : Nat) (r : Nat), N - r = mz → r ≤ N → (∀ i, i < r → ¬ lr i = true → ¬ pkM lr fe cs S N i = none) → am_W E C (am_MQ E C (fun v μ' => μ' = mm_sI μ 46 0 0 ∧ ((∃ i, i < N ∧ ¬ lr i = true ∧ pkM lr fe cs S N i = none ∧ v = some (.int (-3))) ∨ ((∀ i, i < N → ¬ lr i = true → ¬ pkM lr fe cs S N i = none) ∧ v = some (.int (smQ (hlM lr) (fun i => coO cs i (pkM lr fe cs S N i)) N))))) (rmX7_heldOut).cells (rmX7_heldOut).slots) μ0 0 0 53 [some (.ref 46), some (.int (nI 0)), some (.int (nI (bitsN (whM cs N) S))), some (.int (smQ (hlM lr) (fun i => coO cs i (pkM lr fe cs S N i)) r)), some (.int (nI r)), none] [] := by
            intro mz
            induction mz using Nat.strongRecOn with
            | ind mz ih =>
              intro r hz hr hno
              refine am_iload fx dX7_heldOut_53 rfl ?_
              refine am_aload_n fx dX7_heldOut_55 rfl ?_
              refine am_getI fx dX7_heldOut_56 fkX7_53 (by decide) (by decide) rfl (so7 hb) hm.2.1 ?_
              refine am_icmp_ge fx 191 dX7_heldOut_59 (by decide) (fun c59 => ?_) (fun c59 => ?_)
              · try simp (disch := omega) only [bz_0, Classical.not_not, Int32.not_le, Int32.not_lt, Nat.not_le, Nat.not_lt, nI_leI, nI_ltI, nI_eq, nI_le0, nI_lt0] at c59
                refine am_iload_n fx dX7_heldOut_191 rfl ?_
                exact am_iret fx dX7_heldOut_192 ⟨hM0, Or.inr ⟨fun i hi hl => hno i (by omega) hl, by rw [show r = N by omega]⟩⟩
              · try simp (disch := omega) only [bz_0, Classical.not_not, Int32.not_le, Int32.not_lt, Nat.not_le, Nat.not_lt, nI_leI, nI_ltI, nI_eq, nI_le0, nI_lt0] at c59
                refine am_aload_n fx dX7_heldOut_62 rfl ?_
                refine am_getR fx dX7_heldOut_63 fkX7_13 (by decide) (by decide) rfl (so7 hb) (rf7_4 hb) ?_
                refine am_iload fx dX7_heldOut_66 rfl ?_
                refine am_zald (j := r) fx dX7_heldOut_68 (sa7_4 hb) rfl (by omega) (by decide) (hh r (by omega)) ?_
                refine am_if_eq fx 185 dX7_heldOut_69 (by decide) (fun c69 => ?_) (fun c69 => ?_)
                · skip
                  have c69 : lr r = true := Classical.not_not.mp (bz_0.mp c69)
                  first | refine am_iinc fx dX7_heldOut_185 rfl (nI_inc _) (by decide) rfl ?_ | refine am_iinc fx dX7_heldOut_185 rfl rfl (by decide) rfl ?_
                  refine am_goto fx 53 dX7_heldOut_188 (by decide) ?_
                  refine am_sub [true, true, true, true, true, false] rfl ?_
                  rw [← smQ_f (P := hlM lr) (c := (fun i => coO cs i (pkM lr fe cs S N i))) (r := r) (by simp [c69])]
                  exact ih (N - (r + 1)) (by omega) (r + 1) rfl (by omega) (fun i hi hl => by rcases Nat.lt_or_ge i r with z | z; exact hno i z hl; rw [show i = r by omega] at hl; exact absurd c69 hl)
                · skip
                  have c69 : ¬ lr r = true := Classical.not_not.mp (fun z => c69 (bz_0.mpr z))
                  refine am_iload_n fx dX7_heldOut_72 rfl ?_
                  refine am_if_ne fx 85 dX7_heldOut_73 (by decide) (fun c73 => ?_) (fun c73 => ?_)
                  · skip
                    exact absurd (by decide) c73
                  · skip
                    refine am_aload_n fx dX7_heldOut_76 rfl ?_
                    refine am_iload fx dX7_heldOut_77 rfl ?_
                    refine am_callV fx dX7_heldOut_79 mkX7_171 (ct_X7_pickOf hb hm hh hf r (by omega)) (so7 hb) ⟨by decide, rfl⟩ rfl (Nat.le_of_ble_eq_true rfl) ⟨by decide, by decide⟩ ⟨Nat.le_of_ble_eq_true rfl, Nat.le_of_ble_eq_true rfl⟩ rfl ?_
                    rintro _ _ ⟨rfl, rfl⟩
                    have hpl : ∀ b, pkM lr fe cs S N r = some b → b < 12 := fun b hb9 => by
                      rcases hq9 : nrM lr fe N r with _ | j9
                      · rw [pkM_n hq9] at hb9; cases hb9
                      · rw [pkM_s hq9] at hb9; have := (am1_lt hb9).1; omega
                    refine am_goto fx 86 dX7_heldOut_82 (by decide) ?_
                    refine am_istore fx dX7_heldOut_86 (by decide) rfl ?_
                    refine am_iload fx dX7_heldOut_88 rfl ?_
                    refine am_if_ge fx 96 dX7_heldOut_90 (by decide) (fun c90 => ?_) (fun c90 => ?_)
                    · skip
                      obtain ⟨s9, hs9⟩ := enO_nn (show (-3 : Int32) < 0 by decide) (Int32.not_lt.mpr c90)
                      have hs12 := hpl s9 hs9
                      rw [hs9]
                      refine am_iload_n fx dX7_heldOut_96 rfl ?_
                      refine am_iload_n fx dX7_heldOut_97 rfl ?_
                      refine am_if_ne fx 112 dX7_heldOut_98 (by decide) (fun c98 => ?_) (fun c98 => ?_)
                      · skip
                        exact absurd (by decide) c98
                      · skip
                        refine am_aload_n fx dX7_heldOut_101 rfl ?_
                        refine am_iload fx dX7_heldOut_102 rfl ?_
                        refine am_iload fx dX7_heldOut_104 rfl ?_
                        refine am_callV fx dX7_heldOut_106 mkX7_65 (ct_X7_costAt hb hm s9 r hs12 (by omega)) (so7 hb) ⟨by decide, rfl⟩ rfl (Nat.le_of_ble_eq_true rfl) ⟨by decide, by decide⟩ ⟨Nat.le_of_ble_eq_true rfl, Nat.le_of_ble_eq_true rfl⟩ rfl ?_
                        rintro _ _ ⟨rfl, rfl⟩
                        refine am_goto fx 183 dX7_heldOut_109 (by decide) ?_
                        refine am_iadd fx dX7_heldOut_183 ?_
                        refine am_topi (show _ = smQ (hlM lr) (fun i => coO cs i (pkM lr fe cs S N i)) (r + 1) by rw [smQ_t (by simp [c69]), hs9]; rfl) ?_
                        refine am_istore_n fx dX7_heldOut_184 (by decide) rfl ?_
                        first | refine am_iinc fx dX7_heldOut_185 rfl (nI_inc _) (by decide) rfl ?_ | refine am_iinc fx dX7_heldOut_185 rfl rfl (by decide) rfl ?_
                        refine am_goto fx 53 dX7_heldOut_188 (by decide) ?_
                        refine am_sub [true, true, true, true, true, false] rfl ?_
                        exact ih (N - (r + 1)) (by omega) (r + 1) rfl (by omega) (fun i hi hl => by rcases Nat.lt_or_ge i r with z | z; exact hno i z hl; rw [show i = r by omega, hs9]; exact fun z => by cases z)
                    · skip
                      have c90 : pkM lr fe cs S N r = none := enO_ng (Int32.not_le.mp c90) (fun b hb9 => by have := hpl b hb9; omega)
                      refine am_bipush (v := (-3)) fx dX7_heldOut_93 (by decide) ?_
                      exact am_iret fx dX7_heldOut_95 ⟨hM0, Or.inl ⟨r, by omega, c69, c90, rfl⟩⟩
          refine am_sub [true, true, true, true, true, false] rfl ?_
          exact lp53 _ 0 rfl (Nat.zero_le _) (fun i hi => absurd hi (by omega))
        · skip
          exact absurd c41 (by decide)
      · skip
        exact absurd c31 (by decide)
    · skip
      exact absurd ((nI_eq (b := 0) (by omega) (by decide)).mp c23) hne
  · skip
    exact absurd (show (0 : Int32) ≤ nI 0 ∧ nI 0 ≤ 3 by decide) (bz_0.mp c11)
set_option maxRecDepth 100000 in
set_option maxHeartbeats 1600000 in
theorem ct_X7_heldOut1 {E : am_E} {μ : am_M} (hb : Bs μ) {S N : Nat} {cs : Nat → Nat → Int32} (hm : Mt μ S N cs) {lr : Nat → Bool} (hh : ∀ i, i < N → mm_I μ 48 i = bz (¬ lr i = true)) {fe : Nat → Nat → Int32} (hf : ∀ f i, f < 2 → i < N → mm_I μ 47 (2 * i + f) = fe f i) (hne : ¬ (bitsN (whM cs N) S) = 0) (hex : ∃ Y, Y < 4096 ∧ cnX (bitsN (whM cs N) S) 1 Y) : am_Ct E yX7_heldOut cX7_heldOut 6 (some .int) rmX7_heldOut [.ref 46, .int (nI 1)] μ (fun v μ' => ∃ B, B < 4096 ∧ μ' = mm_sI (mm_sI (mm_sI μ 46 0 0) 46 26 (nI B)) 46 27 ((smX lr cs S N) B) ∧ cnX (bitsN (whM cs N) S) 1 B ∧ (∀ Y, Y < 4096 → cnX (bitsN (whM cs N) S) 1 Y → bsC (smX lr cs S N) B Y) ∧ v = some (.int (smQ (hlM lr) (fun i => lfM (Nat.testBit B) (fun s => cs s i) S) N))) := by
  refine am_Ct.of (ls := [some (.ref 46), some (.int (nI 1)), none, none, none, none]) (by decide) (Nat.le_of_ble_eq_true rfl) rfl (fun C fx hnm => ?_)
  have hS := hm.s
  have hN := hm.n
  have hAL : (bitsN (whM cs N) S) < 4096 := Nat.lt_of_lt_of_le (bitsN_lt _ S) (Nat.pow_le_pow_right (by decide) hS)
  refine am_aload_n fx dX7_heldOut_0 rfl ?_
  refine am_iconst (v := 0) fx dX7_heldOut_1 (by decide) ?_
  refine am_putI fx dX7_heldOut_2 fkX7_43 (by decide) (by decide) rfl rfl (so7 hb) ?_
  have hb : Bs (mm_sI μ 46 0 0) := hb.fr (Fr.sI _ _ _ _)
  have hm : Mt (mm_sI μ 46 0 0) S N cs := hm.keep (mI_ne (Or.inr (by decide))) (mI_ne (Or.inr (by decide))) (fun k => mI_ne (Or.inl (by decide)))
  have hh : ∀ i, i < N → mm_I (mm_sI μ 46 0 0) 48 i = bz (¬ lr i = true) := fun i hi => (mI_ne (Or.inl (by decide))).trans (hh i hi)
  have hf : ∀ f i, f < 2 → i < N → mm_I (mm_sI μ 46 0 0) 47 (2 * i + f) = fe f i := fun f i h1 h2 => (mI_ne (Or.inl (by decide))).trans (hf f i h1 h2)
  obtain ⟨μ0, hM0⟩ : ∃ z, z = mm_sI μ 46 0 0 := ⟨_, rfl⟩
  rw [← hM0] at hb hm hh hf
  refine am_mem hM0.symm ?_
  refine am_iload_n fx dX7_heldOut_5 rfl ?_
  refine am_iconst (v := 0) fx dX7_heldOut_6 (by decide) ?_
  refine am_iconst (v := 3) fx dX7_heldOut_7 (by decide) ?_
  refine am_callS fx dX7_heldOut_8 mkX7_49 (ct_X7_in _ _ _) rfl (Nat.le_of_ble_eq_true rfl) ⟨by decide, by decide⟩ ⟨Nat.le_of_ble_eq_true rfl, Nat.le_of_ble_eq_true rfl⟩ rfl ?_
  rintro _ _ ⟨rfl, rfl⟩
  refine am_if_ne fx 17 dX7_heldOut_11 (by decide) (fun c11 => ?_) (fun c11 => ?_)
  · skip
    refine am_aload_n fx dX7_heldOut_17 rfl ?_
    refine am_callV fx dX7_heldOut_18 mkX7_145 (ct_X7_wholes hb hm) (so7 hb) ⟨by decide, rfl⟩ rfl (Nat.le_of_ble_eq_true rfl) ⟨by decide, by decide⟩ ⟨Nat.le_of_ble_eq_true rfl, Nat.le_of_ble_eq_true rfl⟩ rfl ?_
    rintro _ _ ⟨rfl, rfl⟩
    refine am_istore_n fx dX7_heldOut_21 (by decide) rfl ?_
    refine am_iload_n fx dX7_heldOut_22 rfl ?_
    refine am_if_ne fx 29 dX7_heldOut_23 (by decide) (fun c23 => ?_) (fun c23 => ?_)
    · skip
      refine am_iload_n fx dX7_heldOut_29 rfl ?_
      refine am_iconst (v := 1) fx dX7_heldOut_30 (by decide) ?_
      refine am_icmp_ne fx 39 dX7_heldOut_31 (by decide) (fun c31 => ?_) (fun c31 => ?_)
      · skip
        exact absurd (by decide) c31
      · skip
        refine am_aload_n fx dX7_heldOut_34 rfl ?_
        refine am_iconst (v := (nI 1)) fx dX7_heldOut_35 (by decide) ?_
        refine am_callV fx dX7_heldOut_36 mkX7_164 (ct_X7_findSet hb hm hh 1 (by decide)) (so7 hb) ⟨by decide, rfl⟩ rfl (Nat.le_of_ble_eq_true rfl) ⟨by decide, by decide⟩ ⟨Nat.le_of_ble_eq_true rfl, Nat.le_of_ble_eq_true rfl⟩ rfl ?_
        rintro _ ν1 ⟨rfl, bs, bm, hν, hB⟩
        obtain ⟨B, hBr, rfl, rfl, hBc, hBm⟩ := bst_some hB (fun z => by
          obtain ⟨Y, hY1, hY2⟩ := hex
          exact bst_neg hB (by omega) z Y hY1 hY2)
        obtain ⟨Mf, hMf⟩ : ∃ z, z = ν1 := ⟨_, rfl⟩
        rw [← hMf] at hν ⊢
        have hkf : Kst μ0 Mf ∨ True := Or.inr trivial
        have hbf : Bs Mf := by
          rw [hν]
          exact hb.fr ⟨rfl, rfl, rfl⟩
        have ekf : ∀ a k, (a ≠ 46 ∨ k < 26) → mm_I Mf a k = mm_I μ0 a k := fun a k h => by
          rw [hν, mI_ne (by omega), mI_ne (by omega)]
        have hmf : Mt Mf S N cs := hm.keep (ekf _ _ (Or.inr (by decide))) (ekf _ _ (Or.inr (by decide))) (fun k => ekf _ _ (Or.inl (by decide)))
        have hhf : ∀ i, i < N → mm_I Mf 48 i = bz (¬ lr i = true) := fun i hi => (ekf _ _ (Or.inl (by decide))).trans (hh i hi)
        have e26 : mm_I Mf 46 26 = nI B := by
          rw [hν]
          exact (mI_ne (Or.inr (by decide))).trans (mI_same _ _ _ _)
        rw [hM0] at hν
        refine am_iload_n fx dX7_heldOut_39 rfl ?_
        refine am_iconst (v := 3) fx dX7_heldOut_40 (by decide) ?_
        refine am_icmp_ne fx 48 dX7_heldOut_41 (by decide) (fun c41 => ?_) (fun c41 => ?_)
        · skip
          refine am_iconst (v := 0) fx dX7_heldOut_48 (by decide) ?_
          refine am_istore_n fx dX7_heldOut_49 (by decide) rfl ?_
          refine am_iconst (v := 0) fx dX7_heldOut_50 (by decide) ?_
          refine am_istore fx dX7_heldOut_51 (by decide) rfl ?_
          have lp53 : ∀ (mz : Nat) (r : Nat), N - r = mz → r ≤ N → am_W E C (am_MQ E C (fun v μ' => ∃ B, B < 4096 ∧ μ' = mm_sI (mm_sI (mm_sI μ 46 0 0) 46 26 (nI B)) 46 27 ((smX lr cs S N) B) ∧ cnX (bitsN (whM cs N) S) 1 B ∧ (∀ Y, Y < 4096 → cnX (bitsN (whM cs N) S) 1 Y → bsC (smX lr cs S N) B Y) ∧ v = some (.int (smQ (hlM lr) (fun i => lfM (Nat.testBit B) (fun s => cs s i) S) N))) (rmX7_heldOut).cells (rmX7_heldOut).slots) Mf 0 0 53 [some (.ref 46), some (.int (nI 1)), some (.int (nI (bitsN (whM cs N) S))), some (.int (smQ (hlM lr) (fun i => lfM (Nat.testBit B) (fun s => cs s i) S) r)), some (.int (nI r)), none] [] := by
            intro mz
            induction mz using Nat.strongRecOn with
            | ind mz ih =>
              intro r hz hr
              refine am_iload fx dX7_heldOut_53 rfl ?_
              refine am_aload_n fx dX7_heldOut_55 rfl ?_
              refine am_getI fx dX7_heldOut_56 fkX7_53 (by decide) (by decide) rfl (so7 hbf) hmf.2.1 ?_
              refine am_icmp_ge fx 191 dX7_heldOut_59 (by decide) (fun c59 => ?_) (fun c59 => ?_)
              · try simp (disch := omega) only [bz_0, Classical.not_not, Int32.not_le, Int32.not_lt, Nat.not_le, Nat.not_lt, nI_leI, nI_ltI, nI_eq, nI_le0, nI_lt0] at c59
                refine am_iload_n fx dX7_heldOut_191 rfl ?_
                exact am_iret fx dX7_heldOut_192 ⟨B, hBr, hν, hBc, hBm, by rw [show r = N by omega]⟩
              · try simp (disch := omega) only [bz_0, Classical.not_not, Int32.not_le, Int32.not_lt, Nat.not_le, Nat.not_lt, nI_leI, nI_ltI, nI_eq, nI_le0, nI_lt0] at c59
                refine am_aload_n fx dX7_heldOut_62 rfl ?_
                refine am_getR fx dX7_heldOut_63 fkX7_13 (by decide) (by decide) rfl (so7 hbf) (rf7_4 hbf) ?_
                refine am_iload fx dX7_heldOut_66 rfl ?_
                refine am_zald (j := r) fx dX7_heldOut_68 (sa7_4 hbf) rfl (by omega) (by decide) (hhf r (by omega)) ?_
                refine am_if_eq fx 185 dX7_heldOut_69 (by decide) (fun c69 => ?_) (fun c69 => ?_)
                · skip
                  have c69 : lr r = true := Classical.not_not.mp (bz_0.mp c69)
                  first | refine am_iinc fx dX7_heldOut_185 rfl (nI_inc _) (by decide) rfl ?_ | refine am_iinc fx dX7_heldOut_185 rfl rfl (by decide) rfl ?_
                  refine am_goto fx 53 dX7_heldOut_188 (by decide) ?_
                  refine am_sub [true, true, true, true, true, false] rfl ?_
                  rw [← smQ_f (P := hlM lr) (c := (fun i => lfM (Nat.testBit B) (fun s => cs s i) S)) (r := r) (by simp [c69])]
                  exact ih (N - (r + 1)) (by omega) (r + 1) rfl (by omega)
                · skip
                  have c69 : ¬ lr r = true := Classical.not_not.mp (fun z => c69 (bz_0.mpr z))
                  refine am_iload_n fx dX7_heldOut_72 rfl ?_
                  refine am_if_ne fx 85 dX7_heldOut_73 (by decide) (fun c73 => ?_) (fun c73 => ?_)
                  · skip
                    refine am_iconst (v := 0) fx dX7_heldOut_85 (by decide) ?_
                    refine am_istore fx dX7_heldOut_86 (by decide) rfl ?_
                    refine am_iload fx dX7_heldOut_88 rfl ?_
                    refine am_if_ge fx 96 dX7_heldOut_90 (by decide) (fun c90 => ?_) (fun c90 => ?_)
                    · skip
                      refine am_iload_n fx dX7_heldOut_96 rfl ?_
                      refine am_iload_n fx dX7_heldOut_97 rfl ?_
                      refine am_if_ne fx 112 dX7_heldOut_98 (by decide) (fun c98 => ?_) (fun c98 => ?_)
                      · skip
                        refine am_iload_n fx dX7_heldOut_112 rfl ?_
                        refine am_iconst (v := 1) fx dX7_heldOut_113 (by decide) ?_
                        refine am_icmp_ne fx 130 dX7_heldOut_114 (by decide) (fun c114 => ?_) (fun c114 => ?_)
                        · skip
                          exact absurd (by decide) c114
                        · skip
                          refine am_aload_n fx dX7_heldOut_117 rfl ?_
                          refine am_aload_n fx dX7_heldOut_118 rfl ?_
                          refine am_getI fx dX7_heldOut_119 fkX7_148 (by decide) (by decide) rfl (so7 hbf) e26 ?_
                          refine am_iload fx dX7_heldOut_122 rfl ?_
                          refine am_callV fx dX7_heldOut_124 mkX7_157 (ct_X7_leastOf hbf hmf (X := B) hBr r (by omega)) (so7 hbf) ⟨by decide, rfl⟩ rfl (Nat.le_of_ble_eq_true rfl) ⟨by decide, by decide⟩ ⟨Nat.le_of_ble_eq_true rfl, Nat.le_of_ble_eq_true rfl⟩ rfl ?_
                          rintro _ _ ⟨rfl, rfl⟩
                          refine am_goto fx 183 dX7_heldOut_127 (by decide) ?_
                          refine am_iadd fx dX7_heldOut_183 ?_
                          refine am_topi (show _ = smQ (hlM lr) (fun i => lfM (Nat.testBit B) (fun s => cs s i) S) (r + 1) by rw [smQ_t (by simp [c69])]) ?_
                          refine am_istore_n fx dX7_heldOut_184 (by decide) rfl ?_
                          first | refine am_iinc fx dX7_heldOut_185 rfl (nI_inc _) (by decide) rfl ?_ | refine am_iinc fx dX7_heldOut_185 rfl rfl (by decide) rfl ?_
                          refine am_goto fx 53 dX7_heldOut_188 (by decide) ?_
                          refine am_sub [true, true, true, true, true, false] rfl ?_
                          exact ih (N - (r + 1)) (by omega) (r + 1) rfl (by omega)
                      · skip
                        exact absurd c98 (by decide)
                    · skip
                      exact absurd (show (0 : Int32) ≤ 0 by decide) c90
                  · skip
                    exact absurd c73 (by decide)
          refine am_sub [true, true, true, true, true, false] rfl ?_
          exact lp53 _ 0 rfl (Nat.zero_le _)
        · skip
          exact absurd c41 (by decide)
    · skip
      exact absurd ((nI_eq (b := 0) (by omega) (by decide)).mp c23) hne
  · skip
    exact absurd (show (0 : Int32) ≤ nI 1 ∧ nI 1 ≤ 3 by decide) (bz_0.mp c11)
set_option maxRecDepth 100000 in
set_option maxHeartbeats 1600000 in
theorem ct_X7_heldOut2 {E : am_E} {μ : am_M} (hb : Bs μ) {S N : Nat} {cs : Nat → Nat → Int32} (hm : Mt μ S N cs) {lr : Nat → Bool} (hh : ∀ i, i < N → mm_I μ 48 i = bz (¬ lr i = true)) {fe : Nat → Nat → Int32} (hf : ∀ f i, f < 2 → i < N → mm_I μ 47 (2 * i + f) = fe f i) (hne : ¬ (bitsN (whM cs N) S) = 0) : am_Ct E yX7_heldOut cX7_heldOut 6 (some .int) rmX7_heldOut [.ref 46, .int (nI 2)] μ (fun v μ' => μ' = mm_sI μ 46 0 0 ∧ v = some (.int (smQ (hlM lr) (fun i => lfM (bitsN (whM cs N) S).testBit (fun s => cs s i) S) N))) := by
  refine am_Ct.of (ls := [some (.ref 46), some (.int (nI 2)), none, none, none, none]) (by decide) (Nat.le_of_ble_eq_true rfl) rfl (fun C fx hnm => ?_)
  have hS := hm.s
  have hN := hm.n
  have hAL : (bitsN (whM cs N) S) < 4096 := Nat.lt_of_lt_of_le (bitsN_lt _ S) (Nat.pow_le_pow_right (by decide) hS)
  refine am_aload_n fx dX7_heldOut_0 rfl ?_
  refine am_iconst (v := 0) fx dX7_heldOut_1 (by decide) ?_
  refine am_putI fx dX7_heldOut_2 fkX7_43 (by decide) (by decide) rfl rfl (so7 hb) ?_
  have hb : Bs (mm_sI μ 46 0 0) := hb.fr (Fr.sI _ _ _ _)
  have hm : Mt (mm_sI μ 46 0 0) S N cs := hm.keep (mI_ne (Or.inr (by decide))) (mI_ne (Or.inr (by decide))) (fun k => mI_ne (Or.inl (by decide)))
  have hh : ∀ i, i < N → mm_I (mm_sI μ 46 0 0) 48 i = bz (¬ lr i = true) := fun i hi => (mI_ne (Or.inl (by decide))).trans (hh i hi)
  have hf : ∀ f i, f < 2 → i < N → mm_I (mm_sI μ 46 0 0) 47 (2 * i + f) = fe f i := fun f i h1 h2 => (mI_ne (Or.inl (by decide))).trans (hf f i h1 h2)
  obtain ⟨μ0, hM0⟩ : ∃ z, z = mm_sI μ 46 0 0 := ⟨_, rfl⟩
  rw [← hM0] at hb hm hh hf
  refine am_mem hM0.symm ?_
  refine am_iload_n fx dX7_heldOut_5 rfl ?_
  refine am_iconst (v := 0) fx dX7_heldOut_6 (by decide) ?_
  refine am_iconst (v := 3) fx dX7_heldOut_7 (by decide) ?_
  refine am_callS fx dX7_heldOut_8 mkX7_49 (ct_X7_in _ _ _) rfl (Nat.le_of_ble_eq_true rfl) ⟨by decide, by decide⟩ ⟨Nat.le_of_ble_eq_true rfl, Nat.le_of_ble_eq_true rfl⟩ rfl ?_
  rintro _ _ ⟨rfl, rfl⟩
  refine am_if_ne fx 17 dX7_heldOut_11 (by decide) (fun c11 => ?_) (fun c11 => ?_)
  · skip
    refine am_aload_n fx dX7_heldOut_17 rfl ?_
    refine am_callV fx dX7_heldOut_18 mkX7_145 (ct_X7_wholes hb hm) (so7 hb) ⟨by decide, rfl⟩ rfl (Nat.le_of_ble_eq_true rfl) ⟨by decide, by decide⟩ ⟨Nat.le_of_ble_eq_true rfl, Nat.le_of_ble_eq_true rfl⟩ rfl ?_
    rintro _ _ ⟨rfl, rfl⟩
    refine am_istore_n fx dX7_heldOut_21 (by decide) rfl ?_
    refine am_iload_n fx dX7_heldOut_22 rfl ?_
    refine am_if_ne fx 29 dX7_heldOut_23 (by decide) (fun c23 => ?_) (fun c23 => ?_)
    · skip
      refine am_iload_n fx dX7_heldOut_29 rfl ?_
      refine am_iconst (v := 1) fx dX7_heldOut_30 (by decide) ?_
      refine am_icmp_ne fx 39 dX7_heldOut_31 (by decide) (fun c31 => ?_) (fun c31 => ?_)
      · skip
        refine am_iload_n fx dX7_heldOut_39 rfl ?_
        refine am_iconst (v := 3) fx dX7_heldOut_40 (by decide) ?_
        refine am_icmp_ne fx 48 dX7_heldOut_41 (by decide) (fun c41 => ?_) (fun c41 => ?_)
        · skip
          refine am_iconst (v := 0) fx dX7_heldOut_48 (by decide) ?_
          refine am_istore_n fx dX7_heldOut_49 (by decide) rfl ?_
          refine am_iconst (v := 0) fx dX7_heldOut_50 (by decide) ?_
          refine am_istore fx dX7_heldOut_51 (by decide) rfl ?_
          have lp53 : ∀ (mz : Nat) (r : Nat), N - r = mz → r ≤ N → am_W E C (am_MQ E C (fun v μ' => μ' = mm_sI μ 46 0 0 ∧ v = some (.int (smQ (hlM lr) (fun i => lfM (bitsN (whM cs N) S).testBit (fun s => cs s i) S) N))) (rmX7_heldOut).cells (rmX7_heldOut).slots) μ0 0 0 53 [some (.ref 46), some (.int (nI 2)), some (.int (nI (bitsN (whM cs N) S))), some (.int (smQ (hlM lr) (fun i => lfM (bitsN (whM cs N) S).testBit (fun s => cs s i) S) r)), some (.int (nI r)), none] [] := by
            intro mz
            induction mz using Nat.strongRecOn with
            | ind mz ih =>
              intro r hz hr
              refine am_iload fx dX7_heldOut_53 rfl ?_
              refine am_aload_n fx dX7_heldOut_55 rfl ?_
              refine am_getI fx dX7_heldOut_56 fkX7_53 (by decide) (by decide) rfl (so7 hb) hm.2.1 ?_
              refine am_icmp_ge fx 191 dX7_heldOut_59 (by decide) (fun c59 => ?_) (fun c59 => ?_)
              · try simp (disch := omega) only [bz_0, Classical.not_not, Int32.not_le, Int32.not_lt, Nat.not_le, Nat.not_lt, nI_leI, nI_ltI, nI_eq, nI_le0, nI_lt0] at c59
                refine am_iload_n fx dX7_heldOut_191 rfl ?_
                exact am_iret fx dX7_heldOut_192 ⟨hM0, by rw [show r = N by omega]⟩
              · try simp (disch := omega) only [bz_0, Classical.not_not, Int32.not_le, Int32.not_lt, Nat.not_le, Nat.not_lt, nI_leI, nI_ltI, nI_eq, nI_le0, nI_lt0] at c59
                refine am_aload_n fx dX7_heldOut_62 rfl ?_
                refine am_getR fx dX7_heldOut_63 fkX7_13 (by decide) (by decide) rfl (so7 hb) (rf7_4 hb) ?_
                refine am_iload fx dX7_heldOut_66 rfl ?_
                refine am_zald (j := r) fx dX7_heldOut_68 (sa7_4 hb) rfl (by omega) (by decide) (hh r (by omega)) ?_
                refine am_if_eq fx 185 dX7_heldOut_69 (by decide) (fun c69 => ?_) (fun c69 => ?_)
                · skip
                  have c69 : lr r = true := Classical.not_not.mp (bz_0.mp c69)
                  first | refine am_iinc fx dX7_heldOut_185 rfl (nI_inc _) (by decide) rfl ?_ | refine am_iinc fx dX7_heldOut_185 rfl rfl (by decide) rfl ?_
                  refine am_goto fx 53 dX7_heldOut_188 (by decide) ?_
                  refine am_sub [true, true, true, true, true, false] rfl ?_
                  rw [← smQ_f (P := hlM lr) (c := (fun i => lfM (bitsN (whM cs N) S).testBit (fun s => cs s i) S)) (r := r) (by simp [c69])]
                  exact ih (N - (r + 1)) (by omega) (r + 1) rfl (by omega)
                · skip
                  have c69 : ¬ lr r = true := Classical.not_not.mp (fun z => c69 (bz_0.mpr z))
                  refine am_iload_n fx dX7_heldOut_72 rfl ?_
                  refine am_if_ne fx 85 dX7_heldOut_73 (by decide) (fun c73 => ?_) (fun c73 => ?_)
                  · skip
                    refine am_iconst (v := 0) fx dX7_heldOut_85 (by decide) ?_
                    refine am_istore fx dX7_heldOut_86 (by decide) rfl ?_
                    refine am_iload fx dX7_heldOut_88 rfl ?_
                    refine am_if_ge fx 96 dX7_heldOut_90 (by decide) (fun c90 => ?_) (fun c90 => ?_)
                    · skip
                      refine am_iload_n fx dX7_heldOut_96 rfl ?_
                      refine am_iload_n fx dX7_heldOut_97 rfl ?_
                      refine am_if_ne fx 112 dX7_heldOut_98 (by decide) (fun c98 => ?_) (fun c98 => ?_)
                      · skip
                        refine am_iload_n fx dX7_heldOut_112 rfl ?_
                        refine am_iconst (v := 1) fx dX7_heldOut_113 (by decide) ?_
                        refine am_icmp_ne fx 130 dX7_heldOut_114 (by decide) (fun c114 => ?_) (fun c114 => ?_)
                        · skip
                          refine am_iload_n fx dX7_heldOut_130 rfl ?_
                          refine am_iconst (v := 2) fx dX7_heldOut_131 (by decide) ?_
                          refine am_icmp_ne fx 145 dX7_heldOut_132 (by decide) (fun c132 => ?_) (fun c132 => ?_)
                          · skip
                            exact absurd (by decide) c132
                          · skip
                            refine am_aload_n fx dX7_heldOut_135 rfl ?_
                            refine am_iload_n fx dX7_heldOut_136 rfl ?_
                            refine am_iload fx dX7_heldOut_137 rfl ?_
                            refine am_callV fx dX7_heldOut_139 mkX7_157 (ct_X7_leastOf hb hm (X := (bitsN (whM cs N) S)) hAL r (by omega)) (so7 hb) ⟨by decide, rfl⟩ rfl (Nat.le_of_ble_eq_true rfl) ⟨by decide, by decide⟩ ⟨Nat.le_of_ble_eq_true rfl, Nat.le_of_ble_eq_true rfl⟩ rfl ?_
                            rintro _ _ ⟨rfl, rfl⟩
                            refine am_goto fx 183 dX7_heldOut_142 (by decide) ?_
                            refine am_iadd fx dX7_heldOut_183 ?_
                            refine am_topi (show _ = smQ (hlM lr) (fun i => lfM (bitsN (whM cs N) S).testBit (fun s => cs s i) S) (r + 1) by rw [smQ_t (by simp [c69])]) ?_
                            refine am_istore_n fx dX7_heldOut_184 (by decide) rfl ?_
                            first | refine am_iinc fx dX7_heldOut_185 rfl (nI_inc _) (by decide) rfl ?_ | refine am_iinc fx dX7_heldOut_185 rfl rfl (by decide) rfl ?_
                            refine am_goto fx 53 dX7_heldOut_188 (by decide) ?_
                            refine am_sub [true, true, true, true, true, false] rfl ?_
                            exact ih (N - (r + 1)) (by omega) (r + 1) rfl (by omega)
                        · skip
                          exact absurd c114 (by decide)
                      · skip
                        exact absurd c98 (by decide)
                    · skip
                      exact absurd (show (0 : Int32) ≤ 0 by decide) c90
                  · skip
                    exact absurd c73 (by decide)
          refine am_sub [true, true, true, true, true, false] rfl ?_
          exact lp53 _ 0 rfl (Nat.zero_le _)
        · skip
          exact absurd c41 (by decide)
      · skip
        exact absurd c31 (by decide)
    · skip
      exact absurd ((nI_eq (b := 0) (by omega) (by decide)).mp c23) hne
  · skip
    exact absurd (show (0 : Int32) ≤ nI 2 ∧ nI 2 ≤ 3 by decide) (bz_0.mp c11)
set_option maxRecDepth 100000 in
set_option maxHeartbeats 1600000 in
theorem ct_X7_heldOut3 {E : am_E} {μ : am_M} (hb : Bs μ) {S N : Nat} {cs : Nat → Nat → Int32} (hm : Mt μ S N cs) {lr : Nat → Bool} (hh : ∀ i, i < N → mm_I μ 48 i = bz (¬ lr i = true)) {fe : Nat → Nat → Int32} (hf : ∀ f i, f < 2 → i < N → mm_I μ 47 (2 * i + f) = fe f i) (hne : ¬ (bitsN (whM cs N) S) = 0) (F0 C0 : Int32) {sv cv : Int32} {ff bb oo : Nat} (hst : (stF (whM cs N) lr S N fe cs (2147483647, F0, C0, -1, -1) 2) = (sv, nI ff, cv, nI bb, nI oo)) (hff : ff < 2) (hbb : bb < 12) (hoo : oo < 12) : am_Ct E yX7_heldOut cX7_heldOut 6 (some .int) rmX7_heldOut [.ref 46, .int (nI 3)] μ (fun v μ' => Kst (mm_sI μ 46 0 0) μ' ∧ fldM μ' = (stF (whM cs N) lr S N fe cs (2147483647, F0, C0, -1, -1) 2) ∧ v = some (.int (smQ (hlM lr) (fun i => if fe ff i < cv then cs bb i else cs oo i) N))) := by
  refine am_Ct.of (ls := [some (.ref 46), some (.int (nI 3)), none, none, none, none]) (by decide) (Nat.le_of_ble_eq_true rfl) rfl (fun C fx hnm => ?_)
  have hS := hm.s
  have hN := hm.n
  have hAL : (bitsN (whM cs N) S) < 4096 := Nat.lt_of_lt_of_le (bitsN_lt _ S) (Nat.pow_le_pow_right (by decide) hS)
  refine am_aload_n fx dX7_heldOut_0 rfl ?_
  refine am_iconst (v := 0) fx dX7_heldOut_1 (by decide) ?_
  refine am_putI fx dX7_heldOut_2 fkX7_43 (by decide) (by decide) rfl rfl (so7 hb) ?_
  have hb : Bs (mm_sI μ 46 0 0) := hb.fr (Fr.sI _ _ _ _)
  have hm : Mt (mm_sI μ 46 0 0) S N cs := hm.keep (mI_ne (Or.inr (by decide))) (mI_ne (Or.inr (by decide))) (fun k => mI_ne (Or.inl (by decide)))
  have hh : ∀ i, i < N → mm_I (mm_sI μ 46 0 0) 48 i = bz (¬ lr i = true) := fun i hi => (mI_ne (Or.inl (by decide))).trans (hh i hi)
  have hf : ∀ f i, f < 2 → i < N → mm_I (mm_sI μ 46 0 0) 47 (2 * i + f) = fe f i := fun f i h1 h2 => (mI_ne (Or.inl (by decide))).trans (hf f i h1 h2)
  obtain ⟨μ0, hM0⟩ : ∃ z, z = mm_sI μ 46 0 0 := ⟨_, rfl⟩
  rw [← hM0] at hb hm hh hf
  refine am_mem hM0.symm ?_
  refine am_iload_n fx dX7_heldOut_5 rfl ?_
  refine am_iconst (v := 0) fx dX7_heldOut_6 (by decide) ?_
  refine am_iconst (v := 3) fx dX7_heldOut_7 (by decide) ?_
  refine am_callS fx dX7_heldOut_8 mkX7_49 (ct_X7_in _ _ _) rfl (Nat.le_of_ble_eq_true rfl) ⟨by decide, by decide⟩ ⟨Nat.le_of_ble_eq_true rfl, Nat.le_of_ble_eq_true rfl⟩ rfl ?_
  rintro _ _ ⟨rfl, rfl⟩
  refine am_if_ne fx 17 dX7_heldOut_11 (by decide) (fun c11 => ?_) (fun c11 => ?_)
  · skip
    refine am_aload_n fx dX7_heldOut_17 rfl ?_
    refine am_callV fx dX7_heldOut_18 mkX7_145 (ct_X7_wholes hb hm) (so7 hb) ⟨by decide, rfl⟩ rfl (Nat.le_of_ble_eq_true rfl) ⟨by decide, by decide⟩ ⟨Nat.le_of_ble_eq_true rfl, Nat.le_of_ble_eq_true rfl⟩ rfl ?_
    rintro _ _ ⟨rfl, rfl⟩
    refine am_istore_n fx dX7_heldOut_21 (by decide) rfl ?_
    refine am_iload_n fx dX7_heldOut_22 rfl ?_
    refine am_if_ne fx 29 dX7_heldOut_23 (by decide) (fun c23 => ?_) (fun c23 => ?_)
    · skip
      refine am_iload_n fx dX7_heldOut_29 rfl ?_
      refine am_iconst (v := 1) fx dX7_heldOut_30 (by decide) ?_
      refine am_icmp_ne fx 39 dX7_heldOut_31 (by decide) (fun c31 => ?_) (fun c31 => ?_)
      · skip
        refine am_iload_n fx dX7_heldOut_39 rfl ?_
        refine am_iconst (v := 3) fx dX7_heldOut_40 (by decide) ?_
        refine am_icmp_ne fx 48 dX7_heldOut_41 (by decide) (fun c41 => ?_) (fun c41 => ?_)
        · skip
          exact absurd (by decide) c41
        · skip
          refine am_aload_n fx dX7_heldOut_44 rfl ?_
          refine am_callV fx dX7_heldOut_45 mkX7_196 (ct_X7_findStump hb hm hh hf F0 C0 (bits_ex hne)) (so7 hb) ⟨by decide, rfl⟩ rfl (Nat.le_of_ble_eq_true rfl) ⟨by decide, by decide⟩ ⟨Nat.le_of_ble_eq_true rfl, Nat.le_of_ble_eq_true rfl⟩ rfl ?_
          rintro _ ν ⟨rfl, hK, hfl⟩
          have hbn : Bs ν := hb.fr hK.1
          have hmn : Mt ν S N cs := hm.kst hK
          have hhn : ∀ i, i < N → mm_I ν 48 i = bz (¬ lr i = true) := fun i hi => (hK.2.1 _ _ (Or.inl (by decide))).trans (hh i hi)
          have hfn : ∀ f i, f < 2 → i < N → mm_I ν 47 (2 * i + f) = fe f i := fun f i h1 h2 => (hK.2.1 _ _ (Or.inl (by decide))).trans (hf f i h1 h2)
          have hfq := hfl.trans hst
          simp only [fldM, Prod.mk.injEq] at hfq
          obtain ⟨-, e28, e29, e30, e31⟩ := hfq
          rw [hM0] at hK
          refine am_iconst (v := 0) fx dX7_heldOut_48 (by decide) ?_
          refine am_istore_n fx dX7_heldOut_49 (by decide) rfl ?_
          refine am_iconst (v := 0) fx dX7_heldOut_50 (by decide) ?_
          refine am_istore fx dX7_heldOut_51 (by decide) rfl ?_
          have lp53 : ∀ (mz : Nat) (r : Nat), N - r = mz → r ≤ N → am_W E C (am_MQ E C (fun v μ' => Kst (mm_sI μ 46 0 0) μ' ∧ fldM μ' = (stF (whM cs N) lr S N fe cs (2147483647, F0, C0, -1, -1) 2) ∧ v = some (.int (smQ (hlM lr) (fun i => if fe ff i < cv then cs bb i else cs oo i) N))) (rmX7_heldOut).cells (rmX7_heldOut).slots) ν 0 0 53 [some (.ref 46), some (.int (nI 3)), some (.int (nI (bitsN (whM cs N) S))), some (.int (smQ (hlM lr) (fun i => if fe ff i < cv then cs bb i else cs oo i) r)), some (.int (nI r)), none] [] := by
            intro mz
            induction mz using Nat.strongRecOn with
            | ind mz ih =>
              intro r hz hr
              refine am_iload fx dX7_heldOut_53 rfl ?_
              refine am_aload_n fx dX7_heldOut_55 rfl ?_
              refine am_getI fx dX7_heldOut_56 fkX7_53 (by decide) (by decide) rfl (so7 hbn) hmn.2.1 ?_
              refine am_icmp_ge fx 191 dX7_heldOut_59 (by decide) (fun c59 => ?_) (fun c59 => ?_)
              · try simp (disch := omega) only [bz_0, Classical.not_not, Int32.not_le, Int32.not_lt, Nat.not_le, Nat.not_lt, nI_leI, nI_ltI, nI_eq, nI_le0, nI_lt0] at c59
                refine am_iload_n fx dX7_heldOut_191 rfl ?_
                exact am_iret fx dX7_heldOut_192 ⟨hK, hfl, by rw [show r = N by omega]⟩
              · try simp (disch := omega) only [bz_0, Classical.not_not, Int32.not_le, Int32.not_lt, Nat.not_le, Nat.not_lt, nI_leI, nI_ltI, nI_eq, nI_le0, nI_lt0] at c59
                refine am_aload_n fx dX7_heldOut_62 rfl ?_
                refine am_getR fx dX7_heldOut_63 fkX7_13 (by decide) (by decide) rfl (so7 hbn) (rf7_4 hbn) ?_
                refine am_iload fx dX7_heldOut_66 rfl ?_
                refine am_zald (j := r) fx dX7_heldOut_68 (sa7_4 hbn) rfl (by omega) (by decide) (hhn r (by omega)) ?_
                refine am_if_eq fx 185 dX7_heldOut_69 (by decide) (fun c69 => ?_) (fun c69 => ?_)
                · skip
                  have c69 : lr r = true := Classical.not_not.mp (bz_0.mp c69)
                  first | refine am_iinc fx dX7_heldOut_185 rfl (nI_inc _) (by decide) rfl ?_ | refine am_iinc fx dX7_heldOut_185 rfl rfl (by decide) rfl ?_
                  refine am_goto fx 53 dX7_heldOut_188 (by decide) ?_
                  refine am_sub [true, true, true, true, true, false] rfl ?_
                  rw [← smQ_f (P := hlM lr) (c := (fun i => if fe ff i < cv then cs bb i else cs oo i)) (r := r) (by simp [c69])]
                  exact ih (N - (r + 1)) (by omega) (r + 1) rfl (by omega)
                · skip
                  have c69 : ¬ lr r = true := Classical.not_not.mp (fun z => c69 (bz_0.mpr z))
                  refine am_iload_n fx dX7_heldOut_72 rfl ?_
                  refine am_if_ne fx 85 dX7_heldOut_73 (by decide) (fun c73 => ?_) (fun c73 => ?_)
                  · skip
                    refine am_iconst (v := 0) fx dX7_heldOut_85 (by decide) ?_
                    refine am_istore fx dX7_heldOut_86 (by decide) rfl ?_
                    refine am_iload fx dX7_heldOut_88 rfl ?_
                    refine am_if_ge fx 96 dX7_heldOut_90 (by decide) (fun c90 => ?_) (fun c90 => ?_)
                    · skip
                      refine am_iload_n fx dX7_heldOut_96 rfl ?_
                      refine am_iload_n fx dX7_heldOut_97 rfl ?_
                      refine am_if_ne fx 112 dX7_heldOut_98 (by decide) (fun c98 => ?_) (fun c98 => ?_)
                      · skip
                        refine am_iload_n fx dX7_heldOut_112 rfl ?_
                        refine am_iconst (v := 1) fx dX7_heldOut_113 (by decide) ?_
                        refine am_icmp_ne fx 130 dX7_heldOut_114 (by decide) (fun c114 => ?_) (fun c114 => ?_)
                        · skip
                          refine am_iload_n fx dX7_heldOut_130 rfl ?_
                          refine am_iconst (v := 2) fx dX7_heldOut_131 (by decide) ?_
                          refine am_icmp_ne fx 145 dX7_heldOut_132 (by decide) (fun c132 => ?_) (fun c132 => ?_)
                          · skip
                            refine am_aload_n fx dX7_heldOut_145 rfl ?_
                            refine am_aload_n fx dX7_heldOut_146 rfl ?_
                            refine am_getR fx dX7_heldOut_147 fkX7_7 (by decide) (by decide) rfl (so7 hbn) (rf7_3 hbn) ?_
                            refine am_iconst (v := (nI 2)) fx dX7_heldOut_150 (by decide) ?_
                            refine am_iload fx dX7_heldOut_151 rfl ?_
                            refine am_imul fx dX7_heldOut_153 ?_
                            refine am_topi (pk_mul 2 r) ?_
                            refine am_aload_n fx dX7_heldOut_154 rfl ?_
                            refine am_getI fx dX7_heldOut_155 fkX7_184 (by decide) (by decide) rfl (so7 hbn) e28 ?_
                            refine am_iadd fx dX7_heldOut_158 ?_
                            refine am_topi (nI_add _ _) ?_
                            refine am_iald (j := (2 * r + ff)) fx dX7_heldOut_159 (sa7_3 hbn) rfl (by omega) (by decide) (hfn ff r hff (by omega)) ?_
                            refine am_aload_n fx dX7_heldOut_160 rfl ?_
                            refine am_getI fx dX7_heldOut_161 fkX7_187 (by decide) (by decide) rfl (so7 hbn) e29 ?_
                            refine am_icmp_ge fx 174 dX7_heldOut_164 (by decide) (fun c164 => ?_) (fun c164 => ?_)
                            · skip
                              have c164 := Int32.not_lt.mpr c164
                              refine am_aload_n fx dX7_heldOut_174 rfl ?_
                              refine am_getI fx dX7_heldOut_175 fkX7_193 (by decide) (by decide) rfl (so7 hbn) e31 ?_
                              refine am_iload fx dX7_heldOut_178 rfl ?_
                              refine am_callV fx dX7_heldOut_180 mkX7_65 (ct_X7_costAt hbn hmn oo r (by omega) (by omega)) (so7 hbn) ⟨by decide, rfl⟩ rfl (Nat.le_of_ble_eq_true rfl) ⟨by decide, by decide⟩ ⟨Nat.le_of_ble_eq_true rfl, Nat.le_of_ble_eq_true rfl⟩ rfl ?_
                              rintro _ _ ⟨rfl, rfl⟩
                              refine am_iadd fx dX7_heldOut_183 ?_
                              refine am_topi (show _ = smQ (hlM lr) (fun i => if fe ff i < cv then cs bb i else cs oo i) (r + 1) by rw [smQ_t (by simp [c69]), if_neg c164]) ?_
                              refine am_istore_n fx dX7_heldOut_184 (by decide) rfl ?_
                              first | refine am_iinc fx dX7_heldOut_185 rfl (nI_inc _) (by decide) rfl ?_ | refine am_iinc fx dX7_heldOut_185 rfl rfl (by decide) rfl ?_
                              refine am_goto fx 53 dX7_heldOut_188 (by decide) ?_
                              refine am_sub [true, true, true, true, true, false] rfl ?_
                              exact ih (N - (r + 1)) (by omega) (r + 1) rfl (by omega)
                            · skip
                              have c164 := Int32.not_le.mp c164
                              refine am_aload_n fx dX7_heldOut_167 rfl ?_
                              refine am_getI fx dX7_heldOut_168 fkX7_190 (by decide) (by decide) rfl (so7 hbn) e30 ?_
                              refine am_goto fx 178 dX7_heldOut_171 (by decide) ?_
                              refine am_iload fx dX7_heldOut_178 rfl ?_
                              refine am_callV fx dX7_heldOut_180 mkX7_65 (ct_X7_costAt hbn hmn bb r (by omega) (by omega)) (so7 hbn) ⟨by decide, rfl⟩ rfl (Nat.le_of_ble_eq_true rfl) ⟨by decide, by decide⟩ ⟨Nat.le_of_ble_eq_true rfl, Nat.le_of_ble_eq_true rfl⟩ rfl ?_
                              rintro _ _ ⟨rfl, rfl⟩
                              refine am_iadd fx dX7_heldOut_183 ?_
                              refine am_topi (show _ = smQ (hlM lr) (fun i => if fe ff i < cv then cs bb i else cs oo i) (r + 1) by rw [smQ_t (by simp [c69]), if_pos c164]) ?_
                              refine am_istore_n fx dX7_heldOut_184 (by decide) rfl ?_
                              first | refine am_iinc fx dX7_heldOut_185 rfl (nI_inc _) (by decide) rfl ?_ | refine am_iinc fx dX7_heldOut_185 rfl rfl (by decide) rfl ?_
                              refine am_goto fx 53 dX7_heldOut_188 (by decide) ?_
                              refine am_sub [true, true, true, true, true, false] rfl ?_
                              exact ih (N - (r + 1)) (by omega) (r + 1) rfl (by omega)
                          · skip
                            exact absurd c132 (by decide)
                        · skip
                          exact absurd c114 (by decide)
                      · skip
                        exact absurd c98 (by decide)
                    · skip
                      exact absurd (show (0 : Int32) ≤ 0 by decide) c90
                  · skip
                    exact absurd c73 (by decide)
          refine am_sub [true, true, true, true, true, false] rfl ?_
          exact lp53 _ 0 rfl (Nat.zero_le _)
      · skip
        exact absurd c31 (by decide)
    · skip
      exact absurd ((nI_eq (b := 0) (by omega) (by decide)).mp c23) hne
  · skip
    exact absurd (show (0 : Int32) ≤ nI 3 ∧ nI 3 ≤ 3 by decide) (bz_0.mp c11)
set_option maxRecDepth 100000 in
set_option maxHeartbeats 1600000 in
theorem ct_X7_meanN {E : am_E} {μ : am_M} (hb : Bs μ) (h6 : mm_I μ 46 6 = -1) (a n side : Int32) : am_Ct E yX7_mean cX7_mean 8 (some .long) rmX7_mean [.ref 46, .int a, .int n, .int side] μ (fun v μ' => v = some (.long (-9223372036854775808)) ∧ μ' = mm_sI μ 46 0 0) := by
  refine am_Ct.of (ls := [some (.ref 46), some (.int a), some (.int n), some (.int side), none, none, none, none]) (by decide) (Nat.le_of_ble_eq_true rfl) rfl (fun C fx hnm => ?_)
  refine am_aload_n fx dX7_mean_0 rfl ?_
  refine am_iconst (v := 0) fx dX7_mean_1 (by decide) ?_
  refine am_putI fx dX7_mean_2 fkX7_43 (by decide) (by decide) rfl rfl (so7 hb) ?_
  have hb : Bs (mm_sI μ 46 0 0) := hb.fr (Fr.sI _ _ _ _)
  have h6 : mm_I (mm_sI μ 46 0 0) 46 6 = -1 := (mI_ne (Or.inr (by decide))).trans h6
  obtain ⟨μ0, hM0⟩ : ∃ z, z = mm_sI μ 46 0 0 := ⟨_, rfl⟩
  rw [← hM0] at hb h6
  refine am_mem hM0.symm ?_
  refine am_aload_n fx dX7_mean_5 rfl ?_
  refine am_getI fx dX7_mean_6 fkX7_20 (by decide) (by decide) rfl (so7 hb) h6 ?_
  refine am_if_lt fx 48 dX7_mean_9 (by decide) (fun c9 => ?_) (fun c9 => ?_)
  · skip
    refine am_ldc2 fx dX7_mean_48 kdX7_140 ?_
    exact am_lret fx dX7_mean_51 ⟨rfl, hM0⟩
  · skip
    exact absurd (show (-1 : Int32) < 0 by decide) c9
set_option maxRecDepth 100000 in
set_option maxHeartbeats 1600000 in
theorem ct_X7_mean {E : am_E} {μ : am_M} (hb : Bs μ) {En Rd pl : Nat} {od : Nat → Nat} {ou : Nat → Int32} (ho : Mo μ En Rd pl od ou) {S N : Nat} {cs : Nat → Nat → Int32} (hm : Mt μ S N cs) {kd : Int32} (h6 : mm_I μ 46 6 = kd) (hk0 : 0 ≤ kd) {ov tn : Int32} (h17 : mm_I μ 46 17 = ov) (h18 : mm_I μ 46 18 = tn) (a n side : Int32) {ru : Nat → Nat} {cn : Nat → Nat → Nat} (hru : ∀ s, s < En → (if ou s = 0 then nI (Rd + (if ov = 0 ∧ nI s < tn then 1 else 0)) else ou s) = nI (ru s) ∧ ru s ≤ pl) (hcn : ∀ s r, s < En → r < ru s → cs s (od r) = nI (cn s r) ∧ cn s r ≤ 2000000) : am_Ct E yX7_mean cX7_mean 8 (some .long) rmX7_mean [.ref 46, .int a, .int n, .int side] μ (fun v μ' => (¬ ((0 ≤ a ∧ a < nI En) ∧ (0 ≤ side ∧ side ≤ 1) ∧ (0 ≤ n ∧ n ≤ nI (ru a.toNatClampNeg))) ∧ v = some (.long (-9223372036854775808)) ∧ μ' = mm_sI μ 46 0 0) ∨ (((0 ≤ a ∧ a < nI En) ∧ (0 ≤ side ∧ side ≤ 1) ∧ (0 ≤ n ∧ n ≤ nI (ru a.toNatClampNeg))) ∧ n = 0 ∧ (∃ w, v = some (.long w)) ∧ μ' = mm_sI (mm_sI μ 46 0 0) 46 0 1) ∨ (((0 ≤ a ∧ a < nI En) ∧ (0 ≤ side ∧ side ≤ 1) ∧ (0 ≤ n ∧ n ≤ nI (ru a.toNatClampNeg))) ∧ ¬ n = 0 ∧ ∃ a' n' : Nat, a = nI a' ∧ n = nI n' ∧ a' < En ∧ n' ≤ ru a' ∧ 0 < n' ∧ μ' = mm_sI μ 46 0 0 ∧ v = some (.long (lN ((if side = 0 then smN (cn a') 0 n' else n') / Nat.gcd (smN (cn a') 0 n') n'))))) := by
  refine am_Ct.of (ls := [some (.ref 46), some (.int a), some (.int n), some (.int side), none, none, none, none]) (by decide) (Nat.le_of_ble_eq_true rfl) rfl (fun C fx hnm => ?_)
  have hE := ho.e
  have hR := ho.r
  have hP := ho.p
  refine am_aload_n fx dX7_mean_0 rfl ?_
  refine am_iconst (v := 0) fx dX7_mean_1 (by decide) ?_
  refine am_putI fx dX7_mean_2 fkX7_43 (by decide) (by decide) rfl rfl (so7 hb) ?_
  have hb : Bs (mm_sI μ 46 0 0) := hb.fr (Fr.sI _ _ _ _)
  have hm : Mt (mm_sI μ 46 0 0) S N cs := hm.keep (mI_ne (Or.inr (by decide))) (mI_ne (Or.inr (by decide))) (fun k => mI_ne (Or.inl (by decide)))
  have ho : Mo (mm_sI μ 46 0 0) En Rd pl od ou := ho.keep (mI_ne (Or.inr (by decide))) (mI_ne (Or.inr (by decide))) (mI_ne (Or.inr (by decide))) (fun k => mI_ne (Or.inl (by decide))) (fun k => mI_ne (Or.inl (by decide)))
  have h6 : mm_I (mm_sI μ 46 0 0) 46 6 = kd := (mI_ne (Or.inr (by decide))).trans h6
  have h17 : mm_I (mm_sI μ 46 0 0) 46 17 = ov := (mI_ne (Or.inr (by decide))).trans h17
  have h18 : mm_I (mm_sI μ 46 0 0) 46 18 = tn := (mI_ne (Or.inr (by decide))).trans h18
  obtain ⟨μ0, hM0⟩ : ∃ z, z = mm_sI μ 46 0 0 := ⟨_, rfl⟩
  rw [← hM0] at hb hm ho h6 h17 h18
  refine am_mem hM0.symm ?_
  refine am_aload_n fx dX7_mean_5 rfl ?_
  refine am_getI fx dX7_mean_6 fkX7_20 (by decide) (by decide) rfl (so7 hb) h6 ?_
  refine am_if_lt fx 48 dX7_mean_9 (by decide) (fun c9 => ?_) (fun c9 => ?_)
  · skip
    exact absurd c9 (Int32.not_lt.mpr hk0)
  · skip
    refine am_iload_n fx dX7_mean_12 rfl ?_
    refine am_iconst (v := 0) fx dX7_mean_13 (by decide) ?_
    refine am_aload_n fx dX7_mean_14 rfl ?_
    refine am_getI fx dX7_mean_15 fkX7_69 (by decide) (by decide) rfl (so7 hb) ho.1 ?_
    refine am_iconst (v := 1) fx dX7_mean_18 (by decide) ?_
    refine am_isub fx dX7_mean_19 ?_
    refine am_callS fx dX7_mean_20 mkX7_49 (ct_X7_in _ _ _) rfl (Nat.le_of_ble_eq_true rfl) ⟨by decide, by decide⟩ ⟨Nat.le_of_ble_eq_true rfl, Nat.le_of_ble_eq_true rfl⟩ rfl ?_
    rintro _ _ ⟨rfl, rfl⟩
    rw [bz_congr (show (0 ≤ a ∧ a ≤ nI En - 1) ↔ (0 ≤ a ∧ a < nI En) by rw [le_pred (by omega)])]
    refine am_if_eq fx 48 dX7_mean_23 (by decide) (fun c23 => ?_) (fun c23 => ?_)
    · try simp (disch := omega) only [bz_0, Classical.not_not, Int32.not_le, Int32.not_lt, Nat.not_le, Nat.not_lt, nI_leI, nI_ltI, nI_eq, nI_le0, nI_lt0] at c23
      refine am_ldc2 fx dX7_mean_48 kdX7_140 ?_
      exact am_lret fx dX7_mean_51 (Or.inl ⟨fun h => c23 h.1, rfl, hM0⟩)
    · try simp (disch := omega) only [bz_0, Classical.not_not, Int32.not_le, Int32.not_lt, Nat.not_le, Nat.not_lt, nI_leI, nI_ltI, nI_eq, nI_le0, nI_lt0] at c23
      have hc23 := c23
      obtain ⟨a', ha', es⟩ := nI_rg2 c23 (by omega)
      refine am_iload_n fx dX7_mean_26 rfl ?_
      refine am_if_lt fx 48 dX7_mean_27 (by decide) (fun c27 => ?_) (fun c27 => ?_)
      · skip
        refine am_ldc2 fx dX7_mean_48 kdX7_140 ?_
        exact am_lret fx dX7_mean_51 (Or.inl ⟨fun h => Int32.not_lt.mpr h.2.2.1 c27, rfl, hM0⟩)
      · skip
        refine am_iload_n fx dX7_mean_30 rfl ?_
        refine am_aload_n fx dX7_mean_31 rfl ?_
        refine am_iload_n fx dX7_mean_32 rfl ?_
        refine am_topi es ?_
        refine am_callV fx dX7_mean_33 mkX7_199 (ct_X7_runsOf hb ho a' (by omega)) (so7 hb) ⟨by decide, rfl⟩ rfl (Nat.le_of_ble_eq_true rfl) ⟨by decide, by decide⟩ ⟨Nat.le_of_ble_eq_true rfl, Nat.le_of_ble_eq_true rfl⟩ rfl ?_
        rintro _ _ ⟨rfl, rfl⟩
        rw [h17, h18, (hru a' ha').1]
        refine am_icmp_gt fx 48 dX7_mean_36 (by decide) (fun c36 => ?_) (fun c36 => ?_)
        · skip
          refine am_ldc2 fx dX7_mean_48 kdX7_140 ?_
          exact am_lret fx dX7_mean_51 (Or.inl ⟨fun h => Int32.not_lt.mpr h.2.2.2 (by rw [es, nI_clamp (by omega)]; exact c36), rfl, hM0⟩)
        · skip
          refine am_iload_n fx dX7_mean_39 rfl ?_
          refine am_iconst (v := 0) fx dX7_mean_40 (by decide) ?_
          refine am_iconst (v := 1) fx dX7_mean_41 (by decide) ?_
          refine am_callS fx dX7_mean_42 mkX7_49 (ct_X7_in _ _ _) rfl (Nat.le_of_ble_eq_true rfl) ⟨by decide, by decide⟩ ⟨Nat.le_of_ble_eq_true rfl, Nat.le_of_ble_eq_true rfl⟩ rfl ?_
          rintro _ _ ⟨rfl, rfl⟩
          refine am_if_ne fx 52 dX7_mean_45 (by decide) (fun c45 => ?_) (fun c45 => ?_)
          · try simp (disch := omega) only [bz_0, Classical.not_not, Int32.not_le, Int32.not_lt, Nat.not_le, Nat.not_lt, nI_leI, nI_ltI, nI_eq, nI_le0, nI_lt0] at c45
            have c36 := Int32.not_lt.mp c36
            have c27 := Int32.not_lt.mp c27
            have hCM : ((0 ≤ a ∧ a < nI En) ∧ (0 ≤ side ∧ side ≤ 1) ∧ (0 ≤ n ∧ n ≤ nI (ru a.toNatClampNeg))) := ⟨hc23, c45, c27, by rw [es, nI_clamp (by omega)]; exact c36⟩
            have hru9 := (hru a' ha').2
            obtain ⟨n', hn', en⟩ := rg_le ⟨c27, c36⟩ (by omega)
            refine am_iload_n fx dX7_mean_52 rfl ?_
            refine am_if_ne fx 63 dX7_mean_53 (by decide) (fun c53 => ?_) (fun c53 => ?_)
            · skip
              have hn0 : 0 < n' := by
                rcases Nat.eq_zero_or_pos n' with z | z
                · rw [en, z] at c53; exact absurd rfl c53
                · exact z
              have hsl : ∀ k, k ≤ n' → smN (cn a') 0 k ≤ 2000000 * k := fun k => by
                induction k with
                | zero => intro _; exact Nat.zero_le _
                | succ k ih9 =>
                  intro hk
                  have h1 := ih9 (by omega)
                  have h2 := (hcn a' k ha' (by omega)).2
                  simp only [smN]
                  rw [Nat.zero_add]
                  omega
              have hsn := hsl n' (Nat.le_refl _)
              refine am_iconst (v := 0) fx dX7_mean_63 (by decide) ?_
              refine am_topi (show (0 : Int32) = nI (smN (cn a') 0 0) from rfl) ?_
              refine am_istore fx dX7_mean_64 (by decide) rfl ?_
              refine am_iconst (v := 0) fx dX7_mean_66 (by decide) ?_
              refine am_istore fx dX7_mean_67 (by decide) rfl ?_
              have lp69 : ∀ (mz : Nat) (r : Nat), n' - r = mz → r ≤ n' → am_W E C (am_MQ E C (fun v μ' => (¬ ((0 ≤ a ∧ a < nI En) ∧ (0 ≤ side ∧ side ≤ 1) ∧ (0 ≤ n ∧ n ≤ nI (ru a.toNatClampNeg))) ∧ v = some (.long (-9223372036854775808)) ∧ μ' = mm_sI μ 46 0 0) ∨ (((0 ≤ a ∧ a < nI En) ∧ (0 ≤ side ∧ side ≤ 1) ∧ (0 ≤ n ∧ n ≤ nI (ru a.toNatClampNeg))) ∧ n = 0 ∧ (∃ w, v = some (.long w)) ∧ μ' = mm_sI (mm_sI μ 46 0 0) 46 0 1) ∨ (((0 ≤ a ∧ a < nI En) ∧ (0 ≤ side ∧ side ≤ 1) ∧ (0 ≤ n ∧ n ≤ nI (ru a.toNatClampNeg))) ∧ ¬ n = 0 ∧ ∃ a' n' : Nat, a = nI a' ∧ n = nI n' ∧ a' < En ∧ n' ≤ ru a' ∧ 0 < n' ∧ μ' = mm_sI μ 46 0 0 ∧ v = some (.long (lN ((if side = 0 then smN (cn a') 0 n' else n') / Nat.gcd (smN (cn a') 0 n') n'))))) (rmX7_mean).cells (rmX7_mean).slots) μ0 0 0 69 [some (.ref 46), some (.int a), some (.int n), some (.int side), some (.int (nI (smN (cn a') 0 r))), some (.int (nI r)), none, none] [] := by
                intro mz
                induction mz using Nat.strongRecOn with
                | ind mz ih =>
                  intro r hz hr
                  refine am_iload fx dX7_mean_69 rfl ?_
                  refine am_iload_n fx dX7_mean_71 rfl ?_
                  refine am_topi en ?_
                  refine am_icmp_ge fx 98 dX7_mean_72 (by decide) (fun c72 => ?_) (fun c72 => ?_)
                  · try simp (disch := omega) only [bz_0, Classical.not_not, Int32.not_le, Int32.not_lt, Nat.not_le, Nat.not_lt, nI_leI, nI_ltI, nI_eq, nI_le0, nI_lt0] at c72
                    rw [show r = n' by omega]
                    refine am_iload fx dX7_mean_98 rfl ?_
                    refine am_istore fx dX7_mean_100 (by decide) rfl ?_
                    refine am_iload_n fx dX7_mean_102 rfl ?_
                    refine am_topi en ?_
                    refine am_istore fx dX7_mean_103 (by decide) rfl ?_
                    have lp105 : ∀ (mz : Nat) (A B : Nat), B = mz → A < 2 ^ 31 → B < 2 ^ 31 → Nat.gcd A B = Nat.gcd (smN (cn a') 0 n') n' → am_W E C (am_MQ E C (fun v μ' => (¬ ((0 ≤ a ∧ a < nI En) ∧ (0 ≤ side ∧ side ≤ 1) ∧ (0 ≤ n ∧ n ≤ nI (ru a.toNatClampNeg))) ∧ v = some (.long (-9223372036854775808)) ∧ μ' = mm_sI μ 46 0 0) ∨ (((0 ≤ a ∧ a < nI En) ∧ (0 ≤ side ∧ side ≤ 1) ∧ (0 ≤ n ∧ n ≤ nI (ru a.toNatClampNeg))) ∧ n = 0 ∧ (∃ w, v = some (.long w)) ∧ μ' = mm_sI (mm_sI μ 46 0 0) 46 0 1) ∨ (((0 ≤ a ∧ a < nI En) ∧ (0 ≤ side ∧ side ≤ 1) ∧ (0 ≤ n ∧ n ≤ nI (ru a.toNatClampNeg))) ∧ ¬ n = 0 ∧ ∃ a' n' : Nat, a = nI a' ∧ n = nI n' ∧ a' < En ∧ n' ≤ ru a' ∧ 0 < n' ∧ μ' = mm_sI μ 46 0 0 ∧ v = some (.long (lN ((if side = 0 then smN (cn a') 0 n' else n') / Nat.gcd (smN (cn a') 0 n') n'))))) (rmX7_mean).cells (rmX7_mean).slots) μ0 0 0 105 [some (.ref 46), some (.int a), some (.int n), some (.int side), some (.int (nI (smN (cn a') 0 n'))), some (.int (nI A)), some (.int (nI B)), none] [] := by
                      intro mz
                      induction mz using Nat.strongRecOn with
                      | ind mz ih2 =>
                        intro A B hzb hA hB hg
                        refine am_iload fx dX7_mean_105 rfl ?_
                        refine am_if_eq fx 128 dX7_mean_107 (by decide) (fun c107 => ?_) (fun c107 => ?_)
                        · skip
                          have c107 : B = 0 := (nI_eq (b := 0) hB (by decide)).mp c107
                          have hAg : A = Nat.gcd (smN (cn a') 0 n') n' := by rw [← hg, c107, Nat.gcd_zero_right]
                          have hg0 : 0 < Nat.gcd (smN (cn a') 0 n') n' := Nat.gcd_pos_of_pos_right _ hn0
                          refine am_iload_n fx dX7_mean_128 rfl ?_
                          refine am_if_ne fx 141 dX7_mean_129 (by decide) (fun c129 => ?_) (fun c129 => ?_)
                          · skip
                            refine am_iload_n fx dX7_mean_141 rfl ?_
                            refine am_topi en ?_
                            skip
                            refine am_iload fx dX7_mean_142 rfl ?_
                            refine am_idiv fx dX7_mean_144 (nI_ne0 (by omega) hA) ?_
                            refine am_topi (pk_div (by omega) (by omega) hA) ?_
                            refine am_i2l fx dX7_mean_145 (nI_l (by have := Nat.div_le_self n' A; omega)) ?_
                            exact am_lret fx dX7_mean_146 (Or.inr (Or.inr ⟨hCM, c53, a', n', es, en, ha', hn', hn0, hM0, by rw [if_neg c129, hAg]⟩))
                          · skip
                            refine am_iload fx dX7_mean_132 rfl ?_
                            refine am_iload fx dX7_mean_134 rfl ?_
                            refine am_idiv fx dX7_mean_136 (nI_ne0 (by omega) hA) ?_
                            refine am_topi (pk_div (by omega) (by omega) hA) ?_
                            refine am_i2l fx dX7_mean_137 (nI_l (by have := Nat.div_le_self (smN (cn a') 0 n') A; omega)) ?_
                            refine am_goto fx 146 dX7_mean_138 (by decide) ?_
                            exact am_lret fx dX7_mean_146 (Or.inr (Or.inr ⟨hCM, c53, a', n', es, en, ha', hn', hn0, hM0, by rw [if_pos c129, hAg]⟩))
                        · skip
                          have hB0 : 0 < B := by
                            rcases Nat.eq_zero_or_pos B with z | z
                            · rw [z] at c107; exact absurd rfl c107
                            · exact z
                          refine am_iload fx dX7_mean_110 rfl ?_
                          refine am_iload fx dX7_mean_112 rfl ?_
                          refine am_irem fx dX7_mean_114 (nI_ne0 hB0 hB) ?_
                          refine am_topi (pk_rem hA hB0 hB) ?_
                          refine am_istore fx dX7_mean_115 (by decide) rfl ?_
                          refine am_iload fx dX7_mean_117 rfl ?_
                          refine am_istore fx dX7_mean_119 (by decide) rfl ?_
                          refine am_iload fx dX7_mean_121 rfl ?_
                          refine am_istore fx dX7_mean_123 (by decide) rfl ?_
                          refine am_goto fx 105 dX7_mean_125 (by decide) ?_
                          refine am_sub [true, true, true, true, true, true, true, false] rfl ?_
                          exact ih2 (A % B) (by rw [← hzb]; exact Nat.mod_lt _ hB0) B (A % B) rfl hB (Nat.lt_of_le_of_lt (Nat.mod_le _ _) hA) (by rw [← hg, Nat.gcd_comm B, ← Nat.gcd_rec, Nat.gcd_comm])
                    refine am_sub [true, true, true, true, true, true, true, false] rfl ?_
                    exact lp105 _ (smN (cn a') 0 n') n' rfl (by omega) (by omega) rfl
                  · try simp (disch := omega) only [bz_0, Classical.not_not, Int32.not_le, Int32.not_lt, Nat.not_le, Nat.not_lt, nI_leI, nI_ltI, nI_eq, nI_le0, nI_lt0] at c72
                    refine am_iload fx dX7_mean_75 rfl ?_
                    refine am_aload_n fx dX7_mean_77 rfl ?_
                    refine am_iload_n fx dX7_mean_78 rfl ?_
                    refine am_topi es ?_
                    refine am_aload_n fx dX7_mean_79 rfl ?_
                    refine am_getR fx dX7_mean_80 fkX7_24 (by decide) (by decide) rfl (so7 hb) (rf7_14 hb) ?_
                    refine am_iload fx dX7_mean_83 rfl ?_
                    refine am_iald (j := r) fx dX7_mean_85 (sa7_14 hb) rfl (by omega) (by decide) (ho.xo (by omega)) ?_
                    refine am_callV fx dX7_mean_86 mkX7_65 (ct_X7_costAt hb hm a' (od r) (by omega) (ho.ol (by omega))) (so7 hb) ⟨by decide, rfl⟩ rfl (Nat.le_of_ble_eq_true rfl) ⟨by decide, by decide⟩ ⟨Nat.le_of_ble_eq_true rfl, Nat.le_of_ble_eq_true rfl⟩ rfl ?_
                    rintro _ _ ⟨rfl, rfl⟩
                    rw [(hcn a' r ha' (by omega)).1]
                    refine am_iadd fx dX7_mean_89 ?_
                    refine am_topi (show _ = nI (smN (cn a') 0 (r + 1)) by simp only [smN]; rw [Nat.zero_add]; exact nI_add _ _) ?_
                    refine am_istore fx dX7_mean_90 (by decide) rfl ?_
                    first | refine am_iinc fx dX7_mean_92 rfl (nI_inc _) (by decide) rfl ?_ | refine am_iinc fx dX7_mean_92 rfl rfl (by decide) rfl ?_
                    refine am_goto fx 69 dX7_mean_95 (by decide) ?_
                    exact ih (n' - (r + 1)) (by omega) (r + 1) rfl (by omega)
              refine am_sub [true, true, true, true, true, true, false, false] rfl ?_
              exact lp69 _ 0 rfl (Nat.zero_le _)
            · skip
              refine am_aload_n fx dX7_mean_56 rfl ?_
              refine am_iconst (v := 1) fx dX7_mean_57 (by decide) ?_
              refine am_putI fx dX7_mean_58 fkX7_43 (by decide) (by decide) rfl rfl (so7 hb) ?_
              refine am_lconst (v := 0) fx dX7_mean_61 (by decide) ?_
              exact am_lret fx dX7_mean_62 (Or.inr (Or.inl ⟨hCM, c53, ⟨_, rfl⟩, by rw [hM0]⟩))
          · try simp (disch := omega) only [bz_0, Classical.not_not, Int32.not_le, Int32.not_lt, Nat.not_le, Nat.not_lt, nI_leI, nI_ltI, nI_eq, nI_le0, nI_lt0] at c45
            refine am_ldc2 fx dX7_mean_48 kdX7_140 ?_
            exact am_lret fx dX7_mean_51 (Or.inl ⟨fun h => c45 h.2.1, rfl, hM0⟩)
