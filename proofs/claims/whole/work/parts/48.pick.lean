/-! the model: the nearest, the best on it -/
def dfM (fe : Nat → Nat → Int32) (i j : Nat) : Int32 := ab (fe 0 i - fe 0 j) + ab (fe 1 i - fe 1 j)
def nrM (lr : Nat → Bool) (fe : Nat → Nat → Int32) (N i : Nat) : Option Nat := am1 (fun j => decide (j ≠ i) && lr j) (fun j => dfM fe i j) N
def bsM (cs : Nat → Nat → Int32) (S N j : Nat) : Option Nat := am1 (whM cs N) (fun s => cs s j) S
def pkM (lr : Nat → Bool) (fe : Nat → Nat → Int32) (cs : Nat → Nat → Int32) (S N i : Nat) : Option Nat := match nrM lr fe N i with
  | none => none
  | some j => bsM cs S N j
theorem pkM_n {lr : Nat → Bool} {fe : Nat → Nat → Int32} {cs : Nat → Nat → Int32} {S N i : Nat} (h : nrM lr fe N i = none) : pkM lr fe cs S N i = none := by unfold pkM; rw [h]
theorem pkM_s {lr : Nat → Bool} {fe : Nat → Nat → Int32} {cs : Nat → Nat → Int32} {S N i j : Nat} (h : nrM lr fe N i = some j) : pkM lr fe cs S N i = bsM cs S N j := by unfold pkM; rw [h]
theorem enO_ng {o : Option Nat} {x : Int32} (h : enO x o < 0) (hb : ∀ b, o = some b → b < 2 ^ 31) : o = none := by
  rcases o with _ | b
  · rfl
  · exact absurd h (nI_pos (hb b rfl))
theorem ab_ge {x : Int32} (h : 0 ≤ x) : x = ab x := (if_pos h).symm
theorem ab_lt {x : Int32} (h : ¬ 0 ≤ x) : -x = ab x := by unfold ab; rw [if_neg h, Int32.zero_sub]
set_option maxRecDepth 100000 in
set_option maxHeartbeats 4000000 in
theorem ct_X7_farOf {E : am_E} {μ : am_M} (hb : Bs μ) {S N : Nat} {cs : Nat → Nat → Int32} (hm : Mt μ S N cs) {fe : Nat → Nat → Int32} (hf : ∀ f i, f < 2 → i < N → mm_I μ 47 (2 * i + f) = fe f i) (i j : Nat) (hi : i < N) (hj : j < N) : am_Ct E yX7_farOf cX7_farOf 5 (some .int) rmX7_farOf [.ref 46, .int (nI i), .int (nI j)] μ (fun v μ' => v = some (.int (dfM fe i j)) ∧ μ = μ') := by
  refine am_Ct.of (ls := [some (.ref 46), some (.int (nI i)), some (.int (nI j)), none, none]) (by decide) (Nat.le_of_ble_eq_true rfl) rfl (fun C fx hnm => ?_)
  have hS := hm.s
  have hN := hm.n
  refine am_aload_n fx dX7_farOf_0 rfl ?_
  refine am_getR fx dX7_farOf_1 fkX7_7 (by decide) (by decide) rfl (so7 hb) (rf7_3 hb) ?_
  refine am_iconst (v := (nI 2)) fx dX7_farOf_4 (by decide) ?_
  refine am_iload_n fx dX7_farOf_5 rfl ?_
  refine am_imul fx dX7_farOf_6 ?_
  refine am_topi (show _ = nI (2 * i + 0) from pk_mul 2 i) ?_
  refine am_iald (j := (2 * i + 0)) fx dX7_farOf_7 (sa7_3 hb) rfl (by omega) (by decide) (hf 0 i (by decide) (by assumption)) ?_
  refine am_aload_n fx dX7_farOf_8 rfl ?_
  refine am_getR fx dX7_farOf_9 fkX7_7 (by decide) (by decide) rfl (so7 hb) (rf7_3 hb) ?_
  refine am_iconst (v := (nI 2)) fx dX7_farOf_12 (by decide) ?_
  refine am_iload_n fx dX7_farOf_13 rfl ?_
  refine am_imul fx dX7_farOf_14 ?_
  refine am_topi (show _ = nI (2 * j + 0) from pk_mul 2 j) ?_
  refine am_iald (j := (2 * j + 0)) fx dX7_farOf_15 (sa7_3 hb) rfl (by omega) (by decide) (hf 0 j (by decide) (by assumption)) ?_
  refine am_isub fx dX7_farOf_16 ?_
  refine am_istore_n fx dX7_farOf_17 (by decide) rfl ?_
  refine am_aload_n fx dX7_farOf_18 rfl ?_
  refine am_getR fx dX7_farOf_19 fkX7_7 (by decide) (by decide) rfl (so7 hb) (rf7_3 hb) ?_
  refine am_iconst (v := (nI 2)) fx dX7_farOf_22 (by decide) ?_
  refine am_iload_n fx dX7_farOf_23 rfl ?_
  refine am_imul fx dX7_farOf_24 ?_
  refine am_topi (pk_mul 2 i) ?_
  refine am_iconst (v := 1) fx dX7_farOf_25 (by decide) ?_
  refine am_iadd fx dX7_farOf_26 ?_
  refine am_topi (show _ = nI (2 * i + 1) from nI_1 (2 * i)) ?_
  refine am_iald (j := (2 * i + 1)) fx dX7_farOf_27 (sa7_3 hb) rfl (by omega) (by decide) (hf 1 i (by decide) (by assumption)) ?_
  refine am_aload_n fx dX7_farOf_28 rfl ?_
  refine am_getR fx dX7_farOf_29 fkX7_7 (by decide) (by decide) rfl (so7 hb) (rf7_3 hb) ?_
  refine am_iconst (v := (nI 2)) fx dX7_farOf_32 (by decide) ?_
  refine am_iload_n fx dX7_farOf_33 rfl ?_
  refine am_imul fx dX7_farOf_34 ?_
  refine am_topi (pk_mul 2 j) ?_
  refine am_iconst (v := 1) fx dX7_farOf_35 (by decide) ?_
  refine am_iadd fx dX7_farOf_36 ?_
  refine am_topi (show _ = nI (2 * j + 1) from nI_1 (2 * j)) ?_
  refine am_iald (j := (2 * j + 1)) fx dX7_farOf_37 (sa7_3 hb) rfl (by omega) (by decide) (hf 1 j (by decide) (by assumption)) ?_
  refine am_isub fx dX7_farOf_38 ?_
  refine am_istore fx dX7_farOf_39 (by decide) rfl ?_
  refine am_iload_n fx dX7_farOf_41 rfl ?_
  refine am_if_ge fx 50 dX7_farOf_42 (by decide) (fun c42 => ?_) (fun c42 => ?_)
  · skip
    refine am_iload_n fx dX7_farOf_50 rfl ?_
    refine am_topi (ab_ge c42) ?_
    refine am_iload fx dX7_farOf_51 rfl ?_
    refine am_if_ge fx 62 dX7_farOf_53 (by decide) (fun c53 => ?_) (fun c53 => ?_)
    · skip
      refine am_iload fx dX7_farOf_62 rfl ?_
      refine am_topi (ab_ge c53) ?_
      refine am_iadd fx dX7_farOf_64 ?_
      exact am_iret fx dX7_farOf_65 ⟨rfl, rfl⟩
    · skip
      refine am_iload fx dX7_farOf_56 rfl ?_
      refine am_ineg fx dX7_farOf_58 ?_
      refine am_goto fx 64 dX7_farOf_59 (by decide) ?_
      refine am_topi (ab_lt c53) ?_
      refine am_iadd fx dX7_farOf_64 ?_
      exact am_iret fx dX7_farOf_65 ⟨rfl, rfl⟩
  · skip
    refine am_iload_n fx dX7_farOf_45 rfl ?_
    refine am_ineg fx dX7_farOf_46 ?_
    refine am_goto fx 51 dX7_farOf_47 (by decide) ?_
    refine am_topi (ab_lt c42) ?_
    refine am_iload fx dX7_farOf_51 rfl ?_
    refine am_if_ge fx 62 dX7_farOf_53 (by decide) (fun c53 => ?_) (fun c53 => ?_)
    · skip
      refine am_iload fx dX7_farOf_62 rfl ?_
      refine am_topi (ab_ge c53) ?_
      refine am_iadd fx dX7_farOf_64 ?_
      exact am_iret fx dX7_farOf_65 ⟨rfl, rfl⟩
    · skip
      refine am_iload fx dX7_farOf_56 rfl ?_
      refine am_ineg fx dX7_farOf_58 ?_
      refine am_goto fx 64 dX7_farOf_59 (by decide) ?_
      refine am_topi (ab_lt c53) ?_
      refine am_iadd fx dX7_farOf_64 ?_
      exact am_iret fx dX7_farOf_65 ⟨rfl, rfl⟩
set_option maxRecDepth 100000 in
set_option maxHeartbeats 4000000 in
theorem ct_X7_pickOf {E : am_E} {μ : am_M} (hb : Bs μ) {S N : Nat} {cs : Nat → Nat → Int32} (hm : Mt μ S N cs) {lr : Nat → Bool} (hh : ∀ i, i < N → mm_I μ 48 i = bz (¬ lr i = true)) {fe : Nat → Nat → Int32} (hf : ∀ f i, f < 2 → i < N → mm_I μ 47 (2 * i + f) = fe f i) (i : Nat) (hi : i < N) : am_Ct E yX7_pickOf cX7_pickOf 5 (some .int) rmX7_pickOf [.ref 46, .int (nI i)] μ (fun v μ' => v = some (.int (enO (-3) (pkM lr fe cs S N i))) ∧ μ = μ') := by
  refine am_Ct.of (ls := [some (.ref 46), some (.int (nI i)), none, none, none]) (by decide) (Nat.le_of_ble_eq_true rfl) rfl (fun C fx hnm => ?_)
  have hS := hm.s
  have hN := hm.n
  refine am_iconst (v := (-1)) fx dX7_pickOf_0 (by decide) ?_
  refine am_istore_n fx dX7_pickOf_1 (by decide) rfl ?_
  refine am_iconst (v := 0) fx dX7_pickOf_2 (by decide) ?_
  refine am_istore_n fx dX7_pickOf_3 (by decide) rfl ?_
  have lp4 : ∀ (mz : Nat) (r : Nat), N - r = mz → r ≤ N → am_W E C (am_MQ E C (fun v μ' => v = some (.int (enO (-3) (pkM lr fe cs S N i))) ∧ μ = μ') (rmX7_pickOf).cells (rmX7_pickOf).slots) μ 0 0 4 [some (.ref 46), some (.int (nI i)), some (.int (enO (-1) (am1 (fun j => decide (j ≠ i) && lr j) (fun j => dfM fe i j) r))), some (.int (nI r)), none] [] := by
    intro mz
    induction mz using Nat.strongRecOn with
    | ind mz ih =>
      intro r hz hr
      have hlt : ∀ b, (am1 (fun j => decide (j ≠ i) && lr j) (fun j => dfM fe i j) r) = some b → b < r := fun b hb9 => (am1_lt hb9).1
      refine am_iload_n fx dX7_pickOf_4 rfl ?_
      refine am_aload_n fx dX7_pickOf_5 rfl ?_
      refine am_getI fx dX7_pickOf_6 fkX7_53 (by decide) (by decide) rfl (so7 hb) hm.2.1 ?_
      refine am_icmp_ge fx 57 dX7_pickOf_9 (by decide) (fun c9 => ?_) (fun c9 => ?_)
      · try simp (disch := omega) only [bz_0, Classical.not_not, Int32.not_le, Int32.not_lt, Nat.not_le, Nat.not_lt, nI_leI, nI_ltI, nI_eq, nI_le0, nI_lt0] at c9
        rw [show r = N by omega]
        have hlt9 : ∀ b, (am1 (fun j => decide (j ≠ i) && lr j) (fun j => dfM fe i j) N) = some b → b < N := fun b hb9 => (am1_lt hb9).1
        rcases hnr : (am1 (fun j => decide (j ≠ i) && lr j) (fun j => dfM fe i j) N) with _ | j
        · refine am_bipush (v := (-3)) fx dX7_pickOf_57 (by decide) ?_
          refine am_istore_n fx dX7_pickOf_59 (by decide) rfl ?_
          refine am_iconst (v := 0) fx dX7_pickOf_60 (by decide) ?_
          refine am_istore fx dX7_pickOf_61 (by decide) rfl ?_
          refine am_iload fx dX7_pickOf_63 rfl ?_
          refine am_aload_n fx dX7_pickOf_65 rfl ?_
          refine am_getI fx dX7_pickOf_66 fkX7_46 (by decide) (by decide) rfl (so7 hb) hm.1 ?_
          refine am_icmp_ge fx 118 dX7_pickOf_69 (by decide) (fun c69 => ?_) (fun c69 => ?_)
          · refine am_iload_n fx dX7_pickOf_118 rfl ?_
            exact am_iret fx dX7_pickOf_119 ⟨by rw [pkM_n hnr]; rfl, rfl⟩
          · refine am_iload_n fx dX7_pickOf_72 rfl ?_
            refine am_if_lt fx 118 dX7_pickOf_73 (by decide) (fun c73 => ?_) (fun c73 => absurd (show (-1 : Int32) < 0 by decide) c73)
            refine am_iload_n fx dX7_pickOf_118 rfl ?_
            exact am_iret fx dX7_pickOf_119 ⟨by rw [pkM_n hnr]; rfl, rfl⟩
        have hjN := hlt9 j hnr
        refine am_bipush (v := (-3)) fx dX7_pickOf_57 (by decide) ?_
        refine am_istore_n fx dX7_pickOf_59 (by decide) rfl ?_
        refine am_iconst (v := 0) fx dX7_pickOf_60 (by decide) ?_
        refine am_istore fx dX7_pickOf_61 (by decide) rfl ?_
        have lp63 : ∀ (mz : Nat) (q : Nat), S - q = mz → q ≤ S → am_W E C (am_MQ E C (fun v μ' => v = some (.int (enO (-3) (pkM lr fe cs S N i))) ∧ μ = μ') (rmX7_pickOf).cells (rmX7_pickOf).slots) μ 0 0 63 [some (.ref 46), some (.int (nI i)), some (.int (nI j)), some (.int (enO (-3) (am1 (whM cs N) (fun s => cs s j) q))), some (.int (nI q))] [] := by
          intro mz
          induction mz using Nat.strongRecOn with
          | ind mz ih2 =>
            intro q hz2 hq
            have hlt2 : ∀ b, (am1 (whM cs N) (fun s => cs s j) q) = some b → b < q := fun b hb9 => (am1_lt hb9).1
            refine am_iload fx dX7_pickOf_63 rfl ?_
            refine am_aload_n fx dX7_pickOf_65 rfl ?_
            refine am_getI fx dX7_pickOf_66 fkX7_46 (by decide) (by decide) rfl (so7 hb) hm.1 ?_
            refine am_icmp_ge fx 118 dX7_pickOf_69 (by decide) (fun c69 => ?_) (fun c69 => ?_)
            · try simp (disch := omega) only [bz_0, Classical.not_not, Int32.not_le, Int32.not_lt, Nat.not_le, Nat.not_lt, nI_leI, nI_ltI, nI_eq, nI_le0, nI_lt0] at c69
              refine am_iload_n fx dX7_pickOf_118 rfl ?_
              exact am_iret fx dX7_pickOf_119 ⟨by rw [pkM_s hnr, show q = S by omega]; rfl, rfl⟩
            · try simp (disch := omega) only [bz_0, Classical.not_not, Int32.not_le, Int32.not_lt, Nat.not_le, Nat.not_lt, nI_leI, nI_ltI, nI_eq, nI_le0, nI_lt0] at c69
              refine am_iload_n fx dX7_pickOf_72 rfl ?_
              refine am_if_lt fx 118 dX7_pickOf_73 (by decide) (fun c73 => ?_) (fun c73 => ?_)
              · skip
                exact absurd c73 (nI_pos (by omega))
              · skip
                refine am_aload_n fx dX7_pickOf_76 rfl ?_
                refine am_iload fx dX7_pickOf_77 rfl ?_
                refine am_callV fx dX7_pickOf_79 mkX7_142 (ct_X7_isWhole hb hm q (by omega)) (so7 hb) ⟨by decide, rfl⟩ rfl (Nat.le_of_ble_eq_true rfl) ⟨by decide, by decide⟩ ⟨Nat.le_of_ble_eq_true rfl, Nat.le_of_ble_eq_true rfl⟩ rfl ?_
                rintro _ _ ⟨rfl, rfl⟩
                refine am_if_eq fx 110 dX7_pickOf_82 (by decide) (fun c82 => ?_) (fun c82 => ?_)
                · try simp (disch := omega) only [bz_0, Classical.not_not, Int32.not_le, Int32.not_lt, Nat.not_le, Nat.not_lt, nI_leI, nI_ltI, nI_eq, nI_le0, nI_lt0] at c82
                  refine am_iload_n fx dX7_pickOf_110 rfl ?_
                  refine am_topi (show _ = enO (-3) (am1 (whM cs N) (fun s => cs s j) (q + 1)) by rw [am1_n c82]) ?_
                  refine am_istore_n fx dX7_pickOf_111 (by decide) rfl ?_
                  first | refine am_iinc fx dX7_pickOf_112 rfl (nI_inc _) (by decide) rfl ?_ | refine am_iinc fx dX7_pickOf_112 rfl rfl (by decide) rfl ?_
                  refine am_goto fx 63 dX7_pickOf_115 (by decide) ?_
                  exact ih2 (S - (q + 1)) (by omega) (q + 1) rfl (by omega)
                · try simp (disch := omega) only [bz_0, Classical.not_not, Int32.not_le, Int32.not_lt, Nat.not_le, Nat.not_lt, nI_leI, nI_ltI, nI_eq, nI_le0, nI_lt0] at c82
                  refine am_iload_n fx dX7_pickOf_85 rfl ?_
                  refine am_if_lt fx 105 dX7_pickOf_86 (by decide) (fun c86 => ?_) (fun c86 => ?_)
                  · skip
                    have c86 : (am1 (whM cs N) (fun s => cs s j) q) = none := enO_ng c86 (fun b hb9 => by have := hlt2 b hb9; omega)
                    refine am_iload fx dX7_pickOf_105 rfl ?_
                    refine am_topi (show nI q = enO (-3) (am1 (whM cs N) (fun s => cs s j) (q + 1)) by rw [am1_a c82 c86]; rfl) ?_
                    refine am_goto fx 111 dX7_pickOf_107 (by decide) ?_
                    skip
                    refine am_istore_n fx dX7_pickOf_111 (by decide) rfl ?_
                    first | refine am_iinc fx dX7_pickOf_112 rfl (nI_inc _) (by decide) rfl ?_ | refine am_iinc fx dX7_pickOf_112 rfl rfl (by decide) rfl ?_
                    refine am_goto fx 63 dX7_pickOf_115 (by decide) ?_
                    exact ih2 (S - (q + 1)) (by omega) (q + 1) rfl (by omega)
                  · skip
                    obtain ⟨b2, hbs2⟩ := enO_nn (by decide) c86
                    have hbr2 := hlt2 b2 hbs2
                    rw [hbs2]
                    refine am_aload_n fx dX7_pickOf_89 rfl ?_
                    refine am_iload fx dX7_pickOf_90 rfl ?_
                    refine am_iload_n fx dX7_pickOf_92 rfl ?_
                    refine am_callV fx dX7_pickOf_93 mkX7_65 (ct_X7_costAt hb hm q j (by omega) (by omega)) (so7 hb) ⟨by decide, rfl⟩ rfl (Nat.le_of_ble_eq_true rfl) ⟨by decide, by decide⟩ ⟨Nat.le_of_ble_eq_true rfl, Nat.le_of_ble_eq_true rfl⟩ rfl ?_
                    rintro _ _ ⟨rfl, rfl⟩
                    refine am_aload_n fx dX7_pickOf_96 rfl ?_
                    refine am_iload_n fx dX7_pickOf_97 rfl ?_
                    refine am_iload_n fx dX7_pickOf_98 rfl ?_
                    refine am_callV fx dX7_pickOf_99 mkX7_65 (ct_X7_costAt hb hm b2 j (by omega) (by omega)) (so7 hb) ⟨by decide, rfl⟩ rfl (Nat.le_of_ble_eq_true rfl) ⟨by decide, by decide⟩ ⟨Nat.le_of_ble_eq_true rfl, Nat.le_of_ble_eq_true rfl⟩ rfl ?_
                    rintro _ _ ⟨rfl, rfl⟩
                    refine am_icmp_ge fx 110 dX7_pickOf_102 (by decide) (fun c102 => ?_) (fun c102 => ?_)
                    · skip
                      refine am_iload_n fx dX7_pickOf_110 rfl ?_
                      refine am_topi (show _ = enO (-3) (am1 (whM cs N) (fun s => cs s j) (q + 1)) by rw [am1_c hbs2 (Int32.not_lt.mpr c102)]) ?_
                      refine am_istore_n fx dX7_pickOf_111 (by decide) rfl ?_
                      first | refine am_iinc fx dX7_pickOf_112 rfl (nI_inc _) (by decide) rfl ?_ | refine am_iinc fx dX7_pickOf_112 rfl rfl (by decide) rfl ?_
                      refine am_goto fx 63 dX7_pickOf_115 (by decide) ?_
                      exact ih2 (S - (q + 1)) (by omega) (q + 1) rfl (by omega)
                    · skip
                      have c102 := Int32.not_le.mp c102
                      refine am_iload fx dX7_pickOf_105 rfl ?_
                      refine am_topi (show nI q = enO (-3) (am1 (whM cs N) (fun s => cs s j) (q + 1)) by rw [am1_b c82 hbs2 c102]; rfl) ?_
                      refine am_goto fx 111 dX7_pickOf_107 (by decide) ?_
                      skip
                      refine am_istore_n fx dX7_pickOf_111 (by decide) rfl ?_
                      first | refine am_iinc fx dX7_pickOf_112 rfl (nI_inc _) (by decide) rfl ?_ | refine am_iinc fx dX7_pickOf_112 rfl rfl (by decide) rfl ?_
                      refine am_goto fx 63 dX7_pickOf_115 (by decide) ?_
                      exact ih2 (S - (q + 1)) (by omega) (q + 1) rfl (by omega)
        exact lp63 _ 0 rfl (Nat.zero_le _)
      · try simp (disch := omega) only [bz_0, Classical.not_not, Int32.not_le, Int32.not_lt, Nat.not_le, Nat.not_lt, nI_leI, nI_ltI, nI_eq, nI_le0, nI_lt0] at c9
        refine am_iload_n fx dX7_pickOf_12 rfl ?_
        refine am_iload_n fx dX7_pickOf_13 rfl ?_
        refine am_icmp_eq fx 49 dX7_pickOf_14 (by decide) (fun c14 => ?_) (fun c14 => ?_)
        · try simp (disch := omega) only [bz_0, Classical.not_not, Int32.not_le, Int32.not_lt, Nat.not_le, Nat.not_lt, nI_leI, nI_ltI, nI_eq, nI_le0, nI_lt0] at c14
          refine am_iload_n fx dX7_pickOf_49 rfl ?_
          refine am_topi (show _ = enO (-1) (am1 (fun j => decide (j ≠ i) && lr j) (fun j => dfM fe i j) (r + 1)) by rw [am1_n (by simp [c14])]) ?_
          refine am_istore_n fx dX7_pickOf_50 (by decide) rfl ?_
          first | refine am_iinc fx dX7_pickOf_51 rfl (nI_inc _) (by decide) rfl ?_ | refine am_iinc fx dX7_pickOf_51 rfl rfl (by decide) rfl ?_
          refine am_goto fx 4 dX7_pickOf_54 (by decide) ?_
          exact ih (N - (r + 1)) (by omega) (r + 1) rfl (by omega)
        · try simp (disch := omega) only [bz_0, Classical.not_not, Int32.not_le, Int32.not_lt, Nat.not_le, Nat.not_lt, nI_leI, nI_ltI, nI_eq, nI_le0, nI_lt0] at c14
          refine am_aload_n fx dX7_pickOf_17 rfl ?_
          refine am_getR fx dX7_pickOf_18 fkX7_13 (by decide) (by decide) rfl (so7 hb) (rf7_4 hb) ?_
          refine am_iload_n fx dX7_pickOf_21 rfl ?_
          refine am_zald (j := r) fx dX7_pickOf_22 (sa7_4 hb) rfl (by omega) (by decide) (hh r (by omega)) ?_
          refine am_if_ne fx 49 dX7_pickOf_23 (by decide) (fun c23 => ?_) (fun c23 => ?_)
          · skip
            have c23 : ¬ lr r = true := Classical.not_not.mp (fun z => c23 (bz_0.mpr z))
            refine am_iload_n fx dX7_pickOf_49 rfl ?_
            refine am_topi (show _ = enO (-1) (am1 (fun j => decide (j ≠ i) && lr j) (fun j => dfM fe i j) (r + 1)) by rw [am1_n (by simp [c23])]) ?_
            refine am_istore_n fx dX7_pickOf_50 (by decide) rfl ?_
            first | refine am_iinc fx dX7_pickOf_51 rfl (nI_inc _) (by decide) rfl ?_ | refine am_iinc fx dX7_pickOf_51 rfl rfl (by decide) rfl ?_
            refine am_goto fx 4 dX7_pickOf_54 (by decide) ?_
            exact ih (N - (r + 1)) (by omega) (r + 1) rfl (by omega)
          · skip
            have c23 : lr r = true := Classical.not_not.mp (bz_0.mp c23)
            refine am_iload_n fx dX7_pickOf_26 rfl ?_
            refine am_if_lt fx 45 dX7_pickOf_27 (by decide) (fun c27 => ?_) (fun c27 => ?_)
            · skip
              have c27 : (am1 (fun j => decide (j ≠ i) && lr j) (fun j => dfM fe i j) r) = none := enO_neg c27 (fun b hb9 => by have := hlt b hb9; omega)
              refine am_iload_n fx dX7_pickOf_45 rfl ?_
              refine am_topi (show nI r = enO (-1) (am1 (fun j => decide (j ≠ i) && lr j) (fun j => dfM fe i j) (r + 1)) by rw [am1_a (by simp [c14, c23]) c27]; rfl) ?_
              refine am_goto fx 50 dX7_pickOf_46 (by decide) ?_
              skip
              refine am_istore_n fx dX7_pickOf_50 (by decide) rfl ?_
              first | refine am_iinc fx dX7_pickOf_51 rfl (nI_inc _) (by decide) rfl ?_ | refine am_iinc fx dX7_pickOf_51 rfl rfl (by decide) rfl ?_
              refine am_goto fx 4 dX7_pickOf_54 (by decide) ?_
              exact ih (N - (r + 1)) (by omega) (r + 1) rfl (by omega)
            · skip
              obtain ⟨b, hbs⟩ := enO_nn (by decide) c27
              have hbr := hlt b hbs
              rw [hbs]
              refine am_aload_n fx dX7_pickOf_30 rfl ?_
              refine am_iload_n fx dX7_pickOf_31 rfl ?_
              refine am_iload_n fx dX7_pickOf_32 rfl ?_
              refine am_callV fx dX7_pickOf_33 mkX7_168 (ct_X7_farOf hb hm hf i r hi (by omega)) (so7 hb) ⟨by decide, rfl⟩ rfl (Nat.le_of_ble_eq_true rfl) ⟨by decide, by decide⟩ ⟨Nat.le_of_ble_eq_true rfl, Nat.le_of_ble_eq_true rfl⟩ rfl ?_
              rintro _ _ ⟨rfl, rfl⟩
              refine am_aload_n fx dX7_pickOf_36 rfl ?_
              refine am_iload_n fx dX7_pickOf_37 rfl ?_
              refine am_iload_n fx dX7_pickOf_38 rfl ?_
              refine am_callV fx dX7_pickOf_39 mkX7_168 (ct_X7_farOf hb hm hf i b hi (by omega)) (so7 hb) ⟨by decide, rfl⟩ rfl (Nat.le_of_ble_eq_true rfl) ⟨by decide, by decide⟩ ⟨Nat.le_of_ble_eq_true rfl, Nat.le_of_ble_eq_true rfl⟩ rfl ?_
              rintro _ _ ⟨rfl, rfl⟩
              refine am_icmp_ge fx 49 dX7_pickOf_42 (by decide) (fun c42 => ?_) (fun c42 => ?_)
              · skip
                refine am_iload_n fx dX7_pickOf_49 rfl ?_
                refine am_topi (show _ = enO (-1) (am1 (fun j => decide (j ≠ i) && lr j) (fun j => dfM fe i j) (r + 1)) by rw [am1_c hbs (Int32.not_lt.mpr c42)]) ?_
                refine am_istore_n fx dX7_pickOf_50 (by decide) rfl ?_
                first | refine am_iinc fx dX7_pickOf_51 rfl (nI_inc _) (by decide) rfl ?_ | refine am_iinc fx dX7_pickOf_51 rfl rfl (by decide) rfl ?_
                refine am_goto fx 4 dX7_pickOf_54 (by decide) ?_
                exact ih (N - (r + 1)) (by omega) (r + 1) rfl (by omega)
              · skip
                have c42 := Int32.not_le.mp c42
                refine am_iload_n fx dX7_pickOf_45 rfl ?_
                refine am_topi (show nI r = enO (-1) (am1 (fun j => decide (j ≠ i) && lr j) (fun j => dfM fe i j) (r + 1)) by rw [am1_b (by simp [c14, c23]) hbs c42]; rfl) ?_
                refine am_goto fx 50 dX7_pickOf_46 (by decide) ?_
                skip
                refine am_istore_n fx dX7_pickOf_50 (by decide) rfl ?_
                first | refine am_iinc fx dX7_pickOf_51 rfl (nI_inc _) (by decide) rfl ?_ | refine am_iinc fx dX7_pickOf_51 rfl rfl (by decide) rfl ?_
                refine am_goto fx 4 dX7_pickOf_54 (by decide) ?_
                exact ih (N - (r + 1)) (by omega) (r + 1) rfl (by omega)
  refine am_sub [true, true, true, true, false] rfl ?_
  exact lp4 _ 0 rfl (Nat.zero_le _)
set_option maxRecDepth 100000 in
set_option maxHeartbeats 4000000 in
theorem ct_X7_pick {E : am_E} {μ : am_M} (hb : Bs μ) {S N : Nat} {cs : Nat → Nat → Int32} (hm : Mt μ S N cs) {lr : Nat → Bool} (hh : ∀ i, i < N → mm_I μ 48 i = bz (¬ lr i = true)) {fe : Nat → Nat → Int32} (hf : ∀ f i, f < 2 → i < N → mm_I μ 47 (2 * i + f) = fe f i) (x : Int32) : am_Ct E yX7_pick cX7_pick 2 (some .int) rmX7_pick [.ref 46, .int x] μ (fun v μ' => (¬ (0 ≤ x ∧ x < nI N) ∧ v = some (.int (-1)) ∧ μ' = mm_sI μ 46 0 0) ∨ (∃ i, i < N ∧ x = nI i ∧ v = some (.int (enO (-3) (pkM lr fe cs S N i))) ∧ μ' = mm_sI μ 46 0 0)) := by
  refine am_Ct.of (ls := [some (.ref 46), some (.int x)]) (by decide) (Nat.le_of_ble_eq_true rfl) rfl (fun C fx hnm => ?_)
  have hS := hm.s
  have hN := hm.n
  refine am_aload_n fx dX7_pick_0 rfl ?_
  refine am_iconst (v := 0) fx dX7_pick_1 (by decide) ?_
  refine am_putI fx dX7_pick_2 fkX7_43 (by decide) (by decide) rfl rfl (so7 hb) ?_
  have hb : Bs (mm_sI μ 46 0 0) := hb.fr (Fr.sI _ _ _ _)
  have hm : Mt (mm_sI μ 46 0 0) S N cs := hm.keep (mI_ne (Or.inr (by decide))) (mI_ne (Or.inr (by decide))) (fun k => mI_ne (Or.inl (by decide)))
  have hh : ∀ i, i < N → mm_I (mm_sI μ 46 0 0) 48 i = bz (¬ lr i = true) := fun i hi => (mI_ne (Or.inl (by decide))).trans (hh i hi)
  have hf : ∀ f i, f < 2 → i < N → mm_I (mm_sI μ 46 0 0) 47 (2 * i + f) = fe f i := fun f i h1 h2 => (mI_ne (Or.inl (by decide))).trans (hf f i h1 h2)
  obtain ⟨μ0, hM0⟩ : ∃ z, z = mm_sI μ 46 0 0 := ⟨_, rfl⟩
  rw [← hM0] at hb hm hh hf
  refine am_mem hM0.symm ?_
  refine am_aload_n fx dX7_pick_5 rfl ?_
  refine am_iload_n fx dX7_pick_6 rfl ?_
  refine am_callV fx dX7_pick_7 mkX7_60 (ct_X7_isInstance hb hm _) (so7 hb) ⟨by decide, rfl⟩ rfl (Nat.le_of_ble_eq_true rfl) ⟨by decide, by decide⟩ ⟨Nat.le_of_ble_eq_true rfl, Nat.le_of_ble_eq_true rfl⟩ rfl ?_
  rintro _ _ ⟨rfl, rfl⟩
  refine am_if_eq fx 21 dX7_pick_10 (by decide) (fun c10 => ?_) (fun c10 => ?_)
  · try simp (disch := omega) only [bz_0, Classical.not_not, Int32.not_le, Int32.not_lt, Nat.not_le, Nat.not_lt, nI_leI, nI_ltI, nI_eq, nI_le0, nI_lt0] at c10
    refine am_iconst (v := (-1)) fx dX7_pick_21 (by decide) ?_
    exact am_iret fx dX7_pick_22 (Or.inl ⟨c10, rfl, hM0⟩)
  · try simp (disch := omega) only [bz_0, Classical.not_not, Int32.not_le, Int32.not_lt, Nat.not_le, Nat.not_lt, nI_leI, nI_ltI, nI_eq, nI_le0, nI_lt0] at c10
    obtain ⟨i, hi, rfl⟩ := nI_rg2 c10 (by omega)
    refine am_aload_n fx dX7_pick_13 rfl ?_
    refine am_iload_n fx dX7_pick_14 rfl ?_
    refine am_callV fx dX7_pick_15 mkX7_171 (ct_X7_pickOf hb hm hh hf i hi) (so7 hb) ⟨by decide, rfl⟩ rfl (Nat.le_of_ble_eq_true rfl) ⟨by decide, by decide⟩ ⟨Nat.le_of_ble_eq_true rfl, Nat.le_of_ble_eq_true rfl⟩ rfl ?_
    rintro _ _ ⟨rfl, rfl⟩
    refine am_goto fx 22 dX7_pick_18 (by decide) ?_
    exact am_iret fx dX7_pick_22 (Or.inr ⟨i, hi, rfl, rfl, hM0⟩)
