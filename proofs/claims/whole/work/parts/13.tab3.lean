set_option maxRecDepth 100000 in
set_option maxHeartbeats 4000000 in
theorem ct_X5_bestOnN {E : am_E} {μ : am_M} (hb : Bs μ) {S N : Nat} (ht : Tb μ S N) : am_Ct E yX5_bestOn cX5_bestOn 5 (some .int) rmX5_bestOn [.ref 2, .int (-1)] μ (fun v μ' => v = some (.int (-1)) ∧ μ = μ') := by
  refine am_Ct.of (ls := [some (.ref 2), some (.int (-1)), none, none, none]) (by decide) (Nat.le_of_ble_eq_true rfl) rfl (fun C fx hnm => ?_)
  have hS := ht.s
  have hN := ht.n
  refine am_iconst (v := (-1)) fx dX5_bestOn_0 (by decide) ?_
  refine am_istore_n fx dX5_bestOn_1 (by decide) rfl ?_
  refine am_ldc fx dX5_bestOn_2 kdX5_56 ?_
  refine am_istore_n fx dX5_bestOn_4 (by decide) rfl ?_
  refine am_iconst (v := 0) fx dX5_bestOn_5 (by decide) ?_
  refine am_istore fx dX5_bestOn_6 (by decide) rfl ?_
  refine am_iload fx dX5_bestOn_8 rfl ?_
  refine am_aload_n fx dX5_bestOn_10 rfl ?_
  refine am_getI fx dX5_bestOn_11 fkX5_27 (by decide) (by decide) rfl (so5 hb) ht.1 ?_
  refine am_icmp_ge fx 66 dX5_bestOn_14 (by decide) (fun c14 => ?_) (fun c14 => ?_)
  · try simp (disch := omega) only [bz_0, Classical.not_not, Int32.not_le, Int32.not_lt, Nat.not_le, Nat.not_lt, nI_leI, nI_ltI, nI_eq, nI_le0, nI_lt0] at c14
    refine am_iload_n fx dX5_bestOn_66 rfl ?_
    exact am_iret fx dX5_bestOn_67 ⟨rfl, rfl⟩
  · try simp (disch := omega) only [bz_0, Classical.not_not, Int32.not_le, Int32.not_lt, Nat.not_le, Nat.not_lt, nI_leI, nI_ltI, nI_eq, nI_le0, nI_lt0] at c14
    refine am_aload_n fx dX5_bestOn_17 rfl ?_
    refine am_iload_n fx dX5_bestOn_18 rfl ?_
    refine am_callV fx dX5_bestOn_19 mkX5_40 (ct_X5_hasInstance hb ht _) (so5 hb) ⟨by decide, rfl⟩ rfl (Nat.le_of_ble_eq_true rfl) ⟨by decide, by decide⟩ ⟨Nat.le_of_ble_eq_true rfl, Nat.le_of_ble_eq_true rfl⟩ rfl ?_
    rintro _ _ ⟨rfl, rfl⟩
    refine am_if_eq fx 66 dX5_bestOn_22 (by decide) (fun c22 => ?_) (fun c22 => ?_)
    · try simp (disch := omega) only [bz_0, Classical.not_not, Int32.not_le, Int32.not_lt, Nat.not_le, Nat.not_lt, nI_leI, nI_ltI, nI_eq, nI_le0, nI_lt0] at c22
      refine am_iload_n fx dX5_bestOn_66 rfl ?_
      exact am_iret fx dX5_bestOn_67 ⟨rfl, rfl⟩
    · try simp (disch := omega) only [bz_0, Classical.not_not, Int32.not_le, Int32.not_lt, Nat.not_le, Nat.not_lt, nI_leI, nI_ltI, nI_eq, nI_le0, nI_lt0] at c22
      exact absurd c22.1 (by decide)
/-- how many of the first k are so; an array that holds their numbers -/
def cnt (b : Nat → Bool) : Nat → Nat
  | 0 => 0
  | k + 1 => cnt b k + (if b k = true then 1 else 0)
def fil (b : Nat → Bool) (g : Nat → Int32) : Nat → Nat → Int32
  | 0 => g
  | k + 1 => if b k = true then upd (fil b g k) (cnt b k) (nI k) else fil b g k
theorem cnt_le (b : Nat → Bool) : ∀ k, cnt b k ≤ k
  | 0 => Nat.le_refl _
  | k + 1 => by
    have := cnt_le b k
    simp only [cnt]
    split <;> omega
theorem cnt_mono (b : Nat → Bool) {i n : Nat} (h : i ≤ n) : cnt b i ≤ cnt b n := by
  induction n with
  | zero => rw [show i = 0 by omega]; exact Nat.le_refl _
  | succ n ih =>
    rcases Nat.lt_or_ge i (n + 1) with q | q
    · have := ih (by omega)
      simp only [cnt]
      omega
    · rw [show i = n + 1 by omega]; exact Nat.le_refl _
theorem cnt_congr {b b' : Nat → Bool} : ∀ {k : Nat}, (∀ j, j < k → b j = b' j) → cnt b k = cnt b' k
  | 0, _ => rfl
  | k + 1, h => by simp only [cnt]; rw [cnt_congr (k := k) (fun j hj => h j (by omega)), h k (by omega)]
theorem fil_stop (b : Nat → Bool) (g : Nat → Int32) {i n : Nat} (h : i ≤ n) (hc : cnt b n ≤ cnt b i) : fil b g n = fil b g i := by
  induction n with
  | zero => rw [show i = 0 by omega]
  | succ n ih =>
    rcases Nat.lt_or_ge i (n + 1) with q | q
    · have h1 := cnt_mono b (show i ≤ n by omega)
      have h2 : ¬ b n = true := by
        intro hb
        simp only [cnt, if_pos hb] at hc
        omega
      simp only [fil, if_neg h2]
      exact ih (by omega) (by simp only [cnt, if_neg h2] at hc; omega)
    · rw [show i = n + 1 by omega]
theorem fil_in (b : Nat → Bool) (g : Nat → Int32) : ∀ (n j : Nat), j < cnt b n → ∃ i, i < n ∧ b i = true ∧ fil b g n j = nI i ∧ cnt b i = j
  | 0, j, h => by simp [cnt] at h
  | n + 1, j, h => by
    simp only [cnt] at h
    by_cases hb : b n = true
    · simp only [if_pos hb] at h
      simp only [fil, if_pos hb, upd]
      by_cases hj : j = cnt b n
      · exact ⟨n, by omega, hb, by simp [hj], hj.symm⟩
      · obtain ⟨i, h1, h2, h3, h4⟩ := fil_in b g n j (by omega)
        exact ⟨i, by omega, h2, by rw [if_neg hj]; exact h3, h4⟩
    · simp only [if_neg hb] at h
      simp only [fil, if_neg hb]
      obtain ⟨i, h1, h2, h3, h4⟩ := fil_in b g n j (by omega)
      exact ⟨i, by omega, h2, h3, h4⟩
theorem fil_any (b b' : Nat → Bool) (g g' : Nat → Int32) : ∀ (n j : Nat), (∀ i, i < n → b i = b' i) → j < cnt b n → fil b g n j = fil b' g' n j
  | 0, j, _, h => by simp [cnt] at h
  | n + 1, j, hb', h => by
    have e := cnt_congr (k := n) (fun j hj => hb' j (by omega))
    simp only [cnt] at h
    simp only [fil, ← hb' n (by omega), ← e]
    by_cases hb : b n = true
    · simp only [if_pos hb] at h ⊢
      simp only [upd]
      by_cases hj : j = cnt b n
      · simp [hj]
      · rw [if_neg hj, if_neg hj]
        exact fil_any b b' g g' n j (fun i hi => hb' i (by omega)) (by omega)
    · simp only [if_neg hb] at h ⊢
      exact fil_any b b' g g' n j (fun i hi => hb' i (by omega)) (by omega)
theorem Bs.nw {μ : am_M} (hb : Bs μ) (kd len : Nat) : Bs (mm_nw μ kd len) := by
  have hz := hb.z
  have e : ∀ n k r, mm_R μ n k = some r → n < 57 → mm_R (mm_nw μ kd len) n k = some r := fun n k r h hn => by rw [mR_nw, if_neg (by omega)]; exact h
  have hl : ∀ r ∈ bs_ref, r.1 < 57 := by decide
  refine ⟨fun n h0 h1 => by rw [mS_nw, if_neg (by omega)]; exact hb.1 n h0 h1, fun r hr => e _ _ _ (hb.2.1 r hr) (hl r hr), fun j hj => e _ _ _ (hb.2.2.1 j hj) (by decide), fun j hj => e _ _ _ (hb.2.2.2.1 j hj) (by decide), fun j hj => e _ _ _ (hb.2.2.2.2.1 j hj) (by decide), by rw [mZ_nw]; omega⟩
abbrev lrn (μ : am_M) : Nat → Bool := fun k => decide (¬ mm_I μ 20 k = 0)
set_option maxRecDepth 100000 in
set_option maxHeartbeats 4000000 in
theorem ct_X5_learningOnes {E : am_E} {μ : am_M} (hb : Bs μ) {S N : Nat} (ht : Tb μ S N) : am_Ct E yX5_learningOnes cX5_learningOnes 5 (some (.array .int)) rmX5_learningOnes [.ref 2] μ (fun v μ' => v = some (.ref (mm_Z μ)) ∧ μ' = mm_fI (mm_nw μ 8 (cnt (lrn μ) N)) (mm_Z μ) (fil (lrn μ) (fun _ => 0) N)) := by
  refine am_Ct.of (ls := [some (.ref 2), none, none, none, none]) (by decide) (Nat.le_of_ble_eq_true rfl) rfl (fun C fx hnm => ?_)
  have hS := ht.s
  have hN := ht.n
  have hz := hb.z
  have hL := cnt_le (lrn μ) N
  refine am_iconst (v := 0) fx dX5_learningOnes_0 (by decide) ?_
  refine am_istore_n fx dX5_learningOnes_1 (by decide) rfl ?_
  refine am_iconst (v := 0) fx dX5_learningOnes_2 (by decide) ?_
  refine am_istore_n fx dX5_learningOnes_3 (by decide) rfl ?_
  have lp4 : ∀ (mz : Nat) (r : Nat) (x : Int32), N - r = mz → r ≤ N → x = nI (cnt (lrn μ) r) → am_W E C (am_MQ E C (fun v μ' => v = some (.ref (mm_Z μ)) ∧ μ' = mm_fI (mm_nw μ 8 (cnt (lrn μ) N)) (mm_Z μ) (fil (lrn μ) (fun _ => 0) N)) (rmX5_learningOnes).cells (rmX5_learningOnes).slots) μ 0 0 4 [some (.ref 2), some (.int x), some (.int (nI r)), none, none] [] := by
    intro mz
    induction mz using Nat.strongRecOn with
    | ind mz ih =>
      intro r x hn hr hx
      refine am_iload_n fx dX5_learningOnes_4 rfl ?_
      refine am_aload_n fx dX5_learningOnes_5 rfl ?_
      refine am_getI fx dX5_learningOnes_6 fkX5_31 (by decide) (by decide) rfl (so5 hb) ht.2.1 ?_
      refine am_icmp_ge fx 30 dX5_learningOnes_9 (by decide) (fun c9 => ?_) (fun c9 => ?_)
      · try simp (disch := omega) only [bz_0, Classical.not_not, Int32.not_le, Int32.not_lt, Nat.not_le, Nat.not_lt, nI_leI, nI_ltI, nI_eq, nI_le0, nI_lt0] at c9
        refine am_iload_n fx dX5_learningOnes_30 rfl ?_
        have er : N = r := by omega
        subst er
        subst hx
        refine am_newarr fx dX5_learningOnes_31 (Or.inl ⟨rfl, rfl⟩) kw_aint rfl (by omega) (by decide) (show 0 + cnt (lrn μ) N ≤ 24 by omega) ?_
        refine am_astore_n fx dX5_learningOnes_33 (by decide) rfl ?_
        refine am_iconst (v := 0) fx dX5_learningOnes_34 (by decide) ?_
        refine am_istore_n fx dX5_learningOnes_35 (by decide) rfl ?_
        refine am_iconst (v := 0) fx dX5_learningOnes_36 (by decide) ?_
        refine am_istore fx dX5_learningOnes_37 (by decide) rfl ?_
        have lp39 : ∀ (mz : Nat) (i : Nat), N - i = mz → i ≤ N → am_W E C (am_MQ E C (fun v μ' => v = some (.ref (mm_Z μ)) ∧ μ' = mm_fI (mm_nw μ 8 (cnt (lrn μ) N)) (mm_Z μ) (fil (lrn μ) (fun _ => 0) N)) (rmX5_learningOnes).cells (rmX5_learningOnes).slots) (mm_fI (mm_nw μ 8 (cnt (lrn μ) N)) (mm_Z μ) (fil (lrn μ) (fun _ => 0) i)) (0 + 1) (0 + cnt (lrn μ) N) 39 [some (.ref 2), some (.int (nI (cnt (lrn μ) N))), some (.ref (mm_Z μ)), some (.int (nI (cnt (lrn μ) i))), some (.int (nI i))] [] := by
          intro mz
          induction mz using Nat.strongRecOn with
          | ind mz ih =>
            intro i hn1 hi
            have hm := cnt_mono (lrn μ) hi
            have hb2 : Bs (mm_fI (mm_nw μ 8 (cnt (lrn μ) N)) (mm_Z μ) (fil (lrn μ) (fun _ => 0) i)) := (hb.nw _ _).fr (Fr.fI _ _ _)
            have e5 : mm_I (mm_fI (mm_nw μ 8 (cnt (lrn μ) N)) (mm_Z μ) (fil (lrn μ) (fun _ => 0) i)) 2 5 = nI N := by rw [mI_fIn (by omega), mI_nw, if_neg (by omega)]; exact ht.2.1
            have eS : mm_S (mm_fI (mm_nw μ 8 (cnt (lrn μ) N)) (mm_Z μ) (fil (lrn μ) (fun _ => 0) i)) (mm_Z μ) = (8, cnt (lrn μ) N) := (mS_nw μ 8 _ (mm_Z μ)).trans (if_pos rfl)
            have e20 : ∀ k, mm_I (mm_fI (mm_nw μ 8 (cnt (lrn μ) N)) (mm_Z μ) (fil (lrn μ) (fun _ => 0) i)) 20 k = mm_I μ 20 k := fun k => by rw [mI_fIn (by omega), mI_nw, if_neg (by omega)]
            refine am_iload fx dX5_learningOnes_39 rfl ?_
            refine am_aload_n fx dX5_learningOnes_41 rfl ?_
            refine am_getI fx dX5_learningOnes_42 fkX5_31 (by decide) (by decide) rfl (so5 hb2) e5 ?_
            refine am_icmp_ge fx 77 dX5_learningOnes_45 (by decide) (fun c45 => ?_) (fun c45 => ?_)
            · try simp (disch := omega) only [bz_0, Classical.not_not, Int32.not_le, Int32.not_lt, Nat.not_le, Nat.not_lt, nI_leI, nI_ltI, nI_eq, nI_le0, nI_lt0] at c45
              refine am_aload_n fx dX5_learningOnes_77 rfl ?_
              refine am_widen (k := (rmX5_learningOnes).cells) (n := (rmX5_learningOnes).slots) (by decide) (show 0 + cnt (lrn μ) N ≤ 24 by omega) ?_
              exact am_aret fx dX5_learningOnes_78 ⟨rfl, by rw [show i = N by omega]⟩
            · try simp (disch := omega) only [bz_0, Classical.not_not, Int32.not_le, Int32.not_lt, Nat.not_le, Nat.not_lt, nI_leI, nI_ltI, nI_eq, nI_le0, nI_lt0] at c45
              refine am_iload_n fx dX5_learningOnes_48 rfl ?_
              refine am_iload_n fx dX5_learningOnes_49 rfl ?_
              refine am_icmp_ge fx 77 dX5_learningOnes_50 (by decide) (fun c50 => ?_) (fun c50 => ?_)
              · try simp (disch := omega) only [bz_0, Classical.not_not, Int32.not_le, Int32.not_lt, Nat.not_le, Nat.not_lt, nI_leI, nI_ltI, nI_eq, nI_le0, nI_lt0] at c50
                refine am_aload_n fx dX5_learningOnes_77 rfl ?_
                refine am_widen (k := (rmX5_learningOnes).cells) (n := (rmX5_learningOnes).slots) (by decide) (show 0 + cnt (lrn μ) N ≤ 24 by omega) ?_
                exact am_aret fx dX5_learningOnes_78 ⟨rfl, by rw [fil_stop (lrn μ) _ hi (by omega)]⟩
              · try simp (disch := omega) only [bz_0, Classical.not_not, Int32.not_le, Int32.not_lt, Nat.not_le, Nat.not_lt, nI_leI, nI_ltI, nI_eq, nI_le0, nI_lt0] at c50
                refine am_aload_n fx dX5_learningOnes_53 rfl ?_
                refine am_getR fx dX5_learningOnes_54 fkX5_23 (by decide) (by decide) rfl (so5 hb2) (rf5_3 hb2) ?_
                refine am_iload fx dX5_learningOnes_57 rfl ?_
                refine am_zald  fx dX5_learningOnes_59 (sa5_3 hb2) rfl (by omega) (by decide) (e20 i) ?_
                refine am_if_eq fx 71 dX5_learningOnes_60 (by decide) (fun c60 => ?_) (fun c60 => ?_)
                · try simp (disch := omega) only [bz_0, Classical.not_not, Int32.not_le, Int32.not_lt, Nat.not_le, Nat.not_lt, nI_leI, nI_ltI, nI_eq, nI_le0, nI_lt0] at c60
                  have ec : cnt (lrn μ) (i + 1) = cnt (lrn μ) i := by simp only [cnt]; rw [if_neg (by simp [lrn, c60])]; rfl
                  first | refine am_iinc fx dX5_learningOnes_71 rfl (nI_inc _) (by decide) rfl ?_ | refine am_iinc fx dX5_learningOnes_71 rfl rfl (by decide) rfl ?_
                  refine am_goto fx 39 dX5_learningOnes_74 (by decide) ?_
                  exact am_mem (show _ = mm_fI (mm_nw μ 8 (cnt (lrn μ) N)) (mm_Z μ) (fil (lrn μ) (fun _ => 0) (i + 1)) by simp only [fil]; rw [if_neg (by simp [lrn, c60])]) (ec ▸ ih (N - (i + 1)) (by omega) (i + 1) rfl (by omega))
                · try simp (disch := omega) only [bz_0, Classical.not_not, Int32.not_le, Int32.not_lt, Nat.not_le, Nat.not_lt, nI_leI, nI_ltI, nI_eq, nI_le0, nI_lt0] at c60
                  have ec : cnt (lrn μ) (i + 1) = cnt (lrn μ) i + 1 := by simp only [cnt]; rw [if_pos (by simp [lrn, c60])]
                  refine am_aload_n fx dX5_learningOnes_63 rfl ?_
                  refine am_iload_n fx dX5_learningOnes_64 rfl ?_
                  refine am_iload fx dX5_learningOnes_65 rfl ?_
                  refine am_iast  fx dX5_learningOnes_67 eS rfl (by omega) (by omega) ?_
                  first | refine am_iinc fx dX5_learningOnes_68 rfl (nI_inc _) (by decide) rfl ?_ | refine am_iinc fx dX5_learningOnes_68 rfl rfl (by decide) rfl ?_
                  first | refine am_iinc fx dX5_learningOnes_71 rfl (nI_inc _) (by decide) rfl ?_ | refine am_iinc fx dX5_learningOnes_71 rfl rfl (by decide) rfl ?_
                  refine am_goto fx 39 dX5_learningOnes_74 (by decide) ?_
                  exact am_mem (show _ = mm_fI (mm_nw μ 8 (cnt (lrn μ) N)) (mm_Z μ) (fil (lrn μ) (fun _ => 0) (i + 1)) by simp only [fil]; rw [if_pos (by simp [lrn, c60]), sI_fI]) (ec ▸ ih (N - (i + 1)) (by omega) (i + 1) rfl (by omega))
        refine am_mem (show _ = mm_fI (mm_nw μ 8 (cnt (lrn μ) N)) (mm_Z μ) (fil (lrn μ) (fun _ => 0) 0) from ?_) ?_
        · exact am_ext rfl (fun a k => by rw [mI_fI, mI_nw]; by_cases h : a = mm_Z μ <;> simp [h, fil]) (fun _ _ => rfl) rfl rfl
        exact lp39 _ 0 rfl (by omega)
      · try simp (disch := omega) only [bz_0, Classical.not_not, Int32.not_le, Int32.not_lt, Nat.not_le, Nat.not_lt, nI_leI, nI_ltI, nI_eq, nI_le0, nI_lt0] at c9
        refine am_aload_n fx dX5_learningOnes_12 rfl ?_
        refine am_getR fx dX5_learningOnes_13 fkX5_23 (by decide) (by decide) rfl (so5 hb) (rf5_3 hb) ?_
        refine am_iload_n fx dX5_learningOnes_16 rfl ?_
        refine am_zald  fx dX5_learningOnes_17 (sa5_3 hb) rfl (by omega) (by decide) rfl ?_
        refine am_if_eq fx 24 dX5_learningOnes_18 (by decide) (fun c18 => ?_) (fun c18 => ?_)
        · try simp (disch := omega) only [bz_0, Classical.not_not, Int32.not_le, Int32.not_lt, Nat.not_le, Nat.not_lt, nI_leI, nI_ltI, nI_eq, nI_le0, nI_lt0] at c18
          first | refine am_iinc fx dX5_learningOnes_24 rfl (nI_inc _) (by decide) rfl ?_ | refine am_iinc fx dX5_learningOnes_24 rfl rfl (by decide) rfl ?_
          refine am_goto fx 4 dX5_learningOnes_27 (by decide) ?_
          exact ih (N - (r + 1)) (by omega) (r + 1) _ rfl (by omega) (by rw [hx, cnt, if_neg (by simp [lrn, c18])]; rfl)
        · try simp (disch := omega) only [bz_0, Classical.not_not, Int32.not_le, Int32.not_lt, Nat.not_le, Nat.not_lt, nI_leI, nI_ltI, nI_eq, nI_le0, nI_lt0] at c18
          first | refine am_iinc fx dX5_learningOnes_21 rfl (nI_inc _) (by decide) rfl ?_ | refine am_iinc fx dX5_learningOnes_21 rfl rfl (by decide) rfl ?_
          first | refine am_iinc fx dX5_learningOnes_24 rfl (nI_inc _) (by decide) rfl ?_ | refine am_iinc fx dX5_learningOnes_24 rfl rfl (by decide) rfl ?_
          refine am_goto fx 4 dX5_learningOnes_27 (by decide) ?_
          exact ih (N - (r + 1)) (by omega) (r + 1) _ rfl (by omega) (by rw [hx, cnt, if_pos (by simp [lrn, c18])]; exact nI_inc _)
  exact lp4 _ 0 _ rfl (by omega) rfl
