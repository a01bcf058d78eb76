theorem cw_cnt (μ : am_M) (N : Nat) : ∀ S, cw μ N S = cnt (whB μ N) S
  | 0 => rfl
  | S + 1 => by
    simp only [cw, cnt]
    rw [cw_cnt μ N S]
    by_cases h : mm_I μ 16 S = nI N
    · simp [h, whB]
    · simp [h, whB]
theorem cnt_pos {b : Nat → Bool} : ∀ {n : Nat}, 0 < cnt b n → ∃ s, s < n ∧ b s = true
  | 0, h => by simp [cnt] at h
  | n + 1, h => by
    by_cases hb : b n = true
    · exact ⟨n, by omega, hb⟩
    · simp only [cnt, if_neg hb] at h
      obtain ⟨s, h1, h2⟩ := cnt_pos (n := n) h
      exact ⟨s, by omega, h2⟩
theorem pf_le {y : Int32} {k : Nat} (h : 0 ≤ y ∧ y < nI k) (hk : k < 2 ^ 31) : y ≤ nI (k - 1) := by
  obtain ⟨i, hi, rfl⟩ := nI_rg2 h hk
  exact nI_le (by omega) (by omega)
/-- what the search for the best k leaves -/
def PfP (μ μ' : am_M) (S N k : Nat) : Prop := Sm Spf μ μ' ∧ ∃ (wf b : Nat → Nat), (∀ x, x < cnt (whB μ N) S → wf x < S ∧ (whB μ N) (wf x) = true ∧ cnt (whB μ N) (wf x) = x) ∧ mm_I μ' 25 5 = nI k ∧ Fnl (sumP (lrn μ) (fun s i => mm_I μ (4 + s) i) wf k N) (cnt (whB μ N) S) k (mm_I μ' 25 6) b ∧ ∀ j, j < k → mm_I μ' 28 j = nI (wf (b j))
set_option maxRecDepth 100000 in
set_option maxHeartbeats 4000000 in
theorem ct_X6_portfolio {E : am_E} {μ : am_M} (hb : Bs μ) {S N : Nat} (ht : Tb μ S N) (hv : Tv μ S N) (hsum : ∀ k wf p, (∀ x, x < (cnt (whB μ N) S) → wf x < S ∧ (whB μ N) (wf x) = true ∧ cnt (whB μ N) (wf x) = x) → inc (cnt (whB μ N) S) k p → (sumP (lrn μ) (fun s i => mm_I μ (4 + s) i) wf k N) p < 2147483647) (x y : Int32) : am_Ct E yX6_portfolio cX6_portfolio 3 (some .int) rmX6_portfolio [.ref 1, .int x, .int y] μ (fun v μ' => (x < 1 ∧ v = some (.int (-2)) ∧ μ = μ') ∨ (¬ x < 1 ∧ nI (cnt (whB μ N) S) < x ∧ v = some (.int (-3)) ∧ μ = μ') ∨ (∃ k, x = nI k ∧ 1 ≤ k ∧ k ≤ cnt (whB μ N) S ∧ ((¬ (y = -1 ∨ (0 ≤ y ∧ y < nI k)) ∧ v = some (.int (-1)) ∧ μ = μ') ∨ (y = -1 ∧ PfP μ μ' S N k ∧ v = some (.int (mm_I μ' 25 6))) ∨ (∃ i, i < k ∧ y = nI i ∧ PfP μ μ' S N k ∧ v = some (.int (mm_I μ' 28 i)))))) := by
  refine am_Ct.of (ls := [some (.ref 1), some (.int x), some (.int y)]) (by decide) (Nat.le_of_ble_eq_true rfl) rfl (fun C fx hnm => ?_)
  have hS := ht.s
  have hN := ht.n
  have hcw := cw_cnt μ N S
  have hcS := cnt_le (whB μ N) S
  refine am_iload_n fx dX6_portfolio_0 rfl ?_
  refine am_iconst (v := 1) fx dX6_portfolio_1 (by decide) ?_
  refine am_icmp_ge fx 8 dX6_portfolio_2 (by decide) (fun c2 => ?_) (fun c2 => ?_)
  · skip
    refine am_iload_n fx dX6_portfolio_8 rfl ?_
    refine am_aload_n fx dX6_portfolio_9 rfl ?_
    refine am_getR fx dX6_portfolio_10 fkX6_12 (by decide) (by decide) rfl (so6 hb) (rf6_0 hb) ?_
    refine am_callV fx dX6_portfolio_13 mkX6_155 (ct_X5_countWhole hb ht) (so5 hb) ⟨by decide, rfl⟩ rfl (Nat.le_of_ble_eq_true rfl) ⟨by decide, by decide⟩ ⟨Nat.le_of_ble_eq_true rfl, Nat.le_of_ble_eq_true rfl⟩ rfl ?_
    rintro _ _ ⟨rfl, rfl⟩
    rw [hcw]
    refine am_icmp_le fx 22 dX6_portfolio_16 (by decide) (fun c16 => ?_) (fun c16 => ?_)
    · skip
      obtain ⟨k, hk, rfl⟩ := nI_of (Int32.not_lt.mpr (Int32.le_trans (show (0 : Int32) ≤ 1 by decide) c2))
      have hk1 : 1 ≤ k := (nI_leI (a := 1) (by decide) hk).mp c2
      have hkc : k ≤ cnt (whB μ N) S := (nI_leI hk (by omega)).mp c16
      refine am_iload_n fx dX6_portfolio_22 rfl ?_
      refine am_iconst (v := (-1)) fx dX6_portfolio_23 (by decide) ?_
      refine am_icmp_eq fx 40 dX6_portfolio_24 (by decide) (fun c24 => ?_) (fun c24 => ?_)
      · skip
        refine am_aload_n fx dX6_portfolio_40 rfl ?_
        refine am_getR fx dX6_portfolio_41 fkX6_28 (by decide) (by decide) rfl (so6 hb) (rf6_2 hb) ?_
        refine am_aload_n fx dX6_portfolio_44 rfl ?_
        refine am_getR fx dX6_portfolio_45 fkX6_12 (by decide) (by decide) rfl (so6 hb) (rf6_0 hb) ?_
        refine am_iload_n fx dX6_portfolio_48 rfl ?_
        refine am_callV fx dX6_portfolio_49 mkX6_158 (ct_X1_find hb ht k hk1 hkc (hsum k)) (so1 hb) ⟨by decide, rfl⟩ rfl (Nat.le_of_ble_eq_true rfl) ⟨by decide, by decide⟩ ⟨Nat.le_of_ble_eq_true rfl, Nat.le_of_ble_eq_true rfl⟩ rfl ?_
        rintro _ ν ⟨rfl, hSp, hPf⟩
        have hb2 : Bs ν := hb.fr hSp.1
        have hPP : PfP μ ν S N k := ⟨hSp, hPf⟩
        refine am_iload_n fx dX6_portfolio_52 rfl ?_
        refine am_iconst (v := (-1)) fx dX6_portfolio_53 (by decide) ?_
        refine am_icmp_ne fx 67 dX6_portfolio_54 (by decide) (fun c54 => ?_) (fun c54 => ?_)
        · skip
          exact absurd c24 c54
        · skip
          refine am_aload_n fx dX6_portfolio_57 rfl ?_
          refine am_getR fx dX6_portfolio_58 fkX6_28 (by decide) (by decide) rfl (so6 hb2) (rf6_2 hb2) ?_
          refine am_getI fx dX6_portfolio_61 fkX6_162 (by decide) (by decide) rfl (so1 hb2) rfl ?_
          refine am_goto fx 75 dX6_portfolio_64 (by decide) ?_
          exact am_iret fx dX6_portfolio_75 (Or.inr (Or.inr ⟨k, rfl, hk1, hkc, Or.inr (Or.inl ⟨c24, hPP, rfl⟩)⟩))
      · skip
        refine am_iload_n fx dX6_portfolio_27 rfl ?_
        refine am_iconst (v := 0) fx dX6_portfolio_28 (by decide) ?_
        refine am_iload_n fx dX6_portfolio_29 rfl ?_
        refine am_iconst (v := 1) fx dX6_portfolio_30 (by decide) ?_
        refine am_isub fx dX6_portfolio_31 ?_
        refine am_topi (nI_pred1 (by omega)) ?_
        refine am_callS fx dX6_portfolio_32 mkX6_47 (ct_X6_isWithin hb _ _ _) rfl (Nat.le_of_ble_eq_true rfl) ⟨by decide, by decide⟩ ⟨Nat.le_of_ble_eq_true rfl, Nat.le_of_ble_eq_true rfl⟩ rfl ?_
        rintro _ _ ⟨rfl, rfl⟩
        refine am_if_ne fx 40 dX6_portfolio_35 (by decide) (fun c35 => ?_) (fun c35 => ?_)
        · skip
          have c35 := Classical.not_not.mp (fun z => c35 (bz_0.mpr z))
          obtain ⟨i, hi, rfl⟩ := rg_le c35 (by omega)
          have hik : i < k := by omega
          refine am_aload_n fx dX6_portfolio_40 rfl ?_
          refine am_getR fx dX6_portfolio_41 fkX6_28 (by decide) (by decide) rfl (so6 hb) (rf6_2 hb) ?_
          refine am_aload_n fx dX6_portfolio_44 rfl ?_
          refine am_getR fx dX6_portfolio_45 fkX6_12 (by decide) (by decide) rfl (so6 hb) (rf6_0 hb) ?_
          refine am_iload_n fx dX6_portfolio_48 rfl ?_
          refine am_callV fx dX6_portfolio_49 mkX6_158 (ct_X1_find hb ht k hk1 hkc (hsum k)) (so1 hb) ⟨by decide, rfl⟩ rfl (Nat.le_of_ble_eq_true rfl) ⟨by decide, by decide⟩ ⟨Nat.le_of_ble_eq_true rfl, Nat.le_of_ble_eq_true rfl⟩ rfl ?_
          rintro _ ν ⟨rfl, hSp, hPf⟩
          have hb2 : Bs ν := hb.fr hSp.1
          have hPP : PfP μ ν S N k := ⟨hSp, hPf⟩
          refine am_iload_n fx dX6_portfolio_52 rfl ?_
          refine am_iconst (v := (-1)) fx dX6_portfolio_53 (by decide) ?_
          refine am_icmp_ne fx 67 dX6_portfolio_54 (by decide) (fun c54 => ?_) (fun c54 => ?_)
          · skip
            refine am_aload_n fx dX6_portfolio_67 rfl ?_
            refine am_getR fx dX6_portfolio_68 fkX6_28 (by decide) (by decide) rfl (so6 hb2) (rf6_2 hb2) ?_
            refine am_iload_n fx dX6_portfolio_71 rfl ?_
            refine am_callV fx dX6_portfolio_72 mkX6_165 (ct_X1_memberAt hb2 i k hik (by obtain ⟨wf, b, _, h5, _⟩ := hPf; exact h5) (by omega)) (so1 hb2) ⟨by decide, rfl⟩ rfl (Nat.le_of_ble_eq_true rfl) ⟨by decide, by decide⟩ ⟨Nat.le_of_ble_eq_true rfl, Nat.le_of_ble_eq_true rfl⟩ rfl ?_
            rintro _ _ ⟨rfl, rfl⟩
            exact am_iret fx dX6_portfolio_75 (Or.inr (Or.inr ⟨k, rfl, hk1, hkc, Or.inr (Or.inr ⟨i, hik, rfl, hPP, rfl⟩)⟩))
          · skip
            exact absurd c54 c24
        · skip
          have c35 := bz_0.mp c35
          refine am_iconst (v := (-1)) fx dX6_portfolio_38 (by decide) ?_
          exact am_iret fx dX6_portfolio_39 (Or.inr (Or.inr ⟨k, rfl, hk1, hkc, Or.inl ⟨fun z => z.elim c24 (fun h => c35 ⟨h.1, pf_le h (by omega)⟩), rfl, rfl⟩⟩))
    · skip
      refine am_bipush (v := (-3)) fx dX6_portfolio_19 (by decide) ?_
      exact am_iret fx dX6_portfolio_21 (Or.inr (Or.inl ⟨Int32.not_lt.mpr c2, Int32.not_le.mp c16, rfl, rfl⟩))
  · skip
    refine am_bipush (v := (-2)) fx dX6_portfolio_5 (by decide) ?_
    exact am_iret fx dX6_portfolio_7 (Or.inl ⟨Int32.not_le.mp c2, rfl, rfl⟩)
