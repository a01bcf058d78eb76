theorem dropL_congr {bad bad' : Nat → Bool} {least : Nat} {rd : Int32} : ∀ {l : List Nat} {st : (Nat → Int32) × Nat}, (∀ x ∈ l, bad x = bad' x) → dropL bad' least rd l st = dropL bad least rd l st
  | [], _, _ => rfl
  | x :: l, st, h => by
    simp only [dropL]
    rw [h x List.mem_cons_self]
    rw [dropL_congr (l := l) (fun y hy => h y (List.mem_cons_of_mem _ hy)), dropL_congr (l := l) (fun y hy => h y (List.mem_cons_of_mem _ hy))]
theorem todo_mem {A : List Nat} {p x : Nat} (h : x ∈ todo A p) : x ∈ A := by
  unfold todo at h
  exact List.mem_of_mem_take (List.mem_of_mem_drop (List.mem_reverse.mp h))
/-- what dropping does behind round Rd -/
def DrP (μ : am_M) (q En Rd least : Nat) (first : Int32) (rem : Nat) (dr' : Nat → Int32) (rem' : Nat) : Prop :=
  (nI Rd < first ∧ dr' = mm_I μ (q + 15) ∧ rem' = rem) ∨ (first ≤ nI Rd ∧ ∃ (A : List Nat) (ld : Nat), A.head? = some ld ∧ A.Pairwise (lexR (rkF μ q Rd En)) ∧ (∀ x, x ∈ A ↔ x < En ∧ mm_I μ (q + 15) x = 0) ∧ A.length ≤ En ∧ dropL (badF μ q Rd ld) least (nI Rd) (todo A (A.length - 1)) (mm_I μ (q + 15), rem) = (dr', rem') ∧ rem' ≤ rem)
def EndP (μ μ' : am_M) (q L En Rd rem least : Nat) : Prop := ∃ (dr' : Nat → Int32) (rem' : Nat), DrP μ q En (Rd + 1) least (mm_I μ q 1) rem dr' rem' ∧ rem' ≤ rem ∧ Sm (Sdw q) μ μ' ∧ mm_I μ' (q + 15) = dr' ∧ mm_I μ' (q + 1) 10 = nI rem' ∧ mm_I μ' (q + 1) 12 = nI (Rd + 1) ∧ mm_I μ' (q + 1) 11 = enO (-1) (frst (fun s => decide (dr' s = 0)) En 0) ∧ mm_I μ' (q + 1) 14 = woF (nI rem') (mm_I μ q 4) (nI (Rd + 1)) (nI L) (mm_I μ q 5) (mm_I μ (q + 1) 13) ∧ (∀ k, k ≠ 10 → k ≠ 11 → k ≠ 12 → k ≠ 14 → mm_I μ' (q + 1) k = mm_I μ (q + 1) k)
theorem DrP.of {μ ν : am_M} {q En Rd least rem : Nat} {first : Int32} {dr' : Nat → Int32} {rem' : Nat} (h : DrP ν q En Rd least first rem dr' rem') (hE : En ≤ 12) (h15 : mm_I ν (q + 15) = mm_I μ (q + 15)) (htk : ∀ x, x < 12 → tkn ν q x = tkn μ q x) (hq : ∀ k, mm_I ν q k = mm_I μ q k) : DrP μ q En Rd least first rem dr' rem' := by
  rcases h with h | ⟨h0, A, ld, h1, h2, h3, h4, h5, h6⟩
  · exact Or.inl (by rw [← h15]; exact h)
  · have hlt : ∀ x ∈ A, x < 12 := fun x hx => by have := ((h3 x).mp hx).1; omega
    have hld : ld < 12 := hlt ld (List.mem_of_mem_head? h1)
    have hrk : ∀ x, x < 12 → rkF ν q Rd En x = rkF μ q Rd En x := fun x hx => rkF_eq (fun k => congrFun h15 k) (fun y k hy => congrFun (htk y hy) k) hE hx
    refine Or.inr ⟨h0, A, ld, h1, ?_, by rw [← h15]; exact h3, h4, ?_, h6⟩
    · refine List.Pairwise.imp_of_mem ?_ h2
      intro a b ha hb hab
      unfold lexR at *
      rw [← hrk a (hlt a ha), ← hrk b (hlt b hb)]
      exact hab
    · rw [← h5, h15]
      refine dropL_congr (fun x hx => ?_)
      have hx12 : x < 12 := hlt x (todo_mem hx)
      simp only [badF]
      rw [htk ld hld, htk x hx12, hq, hq, hq]
set_option maxRecDepth 100000 in
set_option maxHeartbeats 4000000 in
theorem ct_X2_endRound {E : am_E} {μ : am_M} (hb : Bs μ) {q L : Nat} (hr : Rc μ q L) {En Rd : Nat} (ha : Ra μ q En Rd) {rem least : Nat} (hrem : mm_I μ (q + 1) 10 = nI rem) (hr12 : rem ≤ 12) (hls : mm_I μ q 4 = nI least) (hl12 : least ≤ 12) (hRd : Rd < 24) (hran : ∀ s, s < En → mm_I μ (q + 15) s = 0 → mm_I μ (q + 16) s = nI (Rd + 1)) (hex : ∃ s, s < En ∧ mm_I μ (q + 15) s = 0) : am_Ct E yX2_endRound cX2_endRound 1 none rmX2_endRound [.ref (q + 1)] μ (fun v μ' => v = none ∧ EndP μ μ' q L En Rd rem least) := by
  refine am_Ct.of (ls := [some (.ref (q + 1))]) (by decide) (Nat.le_of_ble_eq_true rfl) rfl (fun C fx hnm => ?_)
  have hE := ha.e
  have hR := ha.r
  have hL := hr.l
  have hq := hr.qq
  refine am_aload_n fx dX2_endRound_0 rfl ?_
  refine am_dup_ref fx dX2_endRound_1 ?_
  refine am_getI fx dX2_endRound_2 fkX2_33 (by decide) (by decide) rfl (so2 hr) ha.2.1 ?_
  refine am_iconst (v := 1) fx dX2_endRound_5 (by decide) ?_
  refine am_iadd fx dX2_endRound_6 ?_
  refine am_topi (nI_1 Rd) ?_
  refine am_putI fx dX2_endRound_7 fkX2_33 (by decide) (by decide) rfl rfl (so2 hr) ?_
  have hb1 : Bs (mm_sI μ (q + 1) 12 (nI (Rd + 1))) := hb.fr (Fr.sI _ _ _ _)
  have hr1 : Rc (mm_sI μ (q + 1) 12 (nI (Rd + 1))) q L := hr.fr (Fr.sI _ _ _ _)
  have h1 : ∀ x k, x ≠ q + 1 → mm_I (mm_sI μ (q + 1) 12 (nI (Rd + 1))) x k = mm_I μ x k := fun x k hx => mI_ne (Or.inl hx)
  have ha1 : Ra (mm_sI μ (q + 1) 12 (nI (Rd + 1))) q En (Rd + 1) := ⟨by rw [mI_ne (Or.inr (by decide))]; exact ha.1, mI_same _ _ _ _, hE, by omega⟩
  have ct28 : ∀ (ν : am_M) (dr' : Nat → Int32) (rem' : Nat), (DrP μ q En (Rd + 1) least (mm_I μ q 1) rem dr' rem' ∧ rem' ≤ rem ∧ Sm (Sdw q) μ ν ∧ mm_I ν (q + 15) = dr' ∧ mm_I ν (q + 1) 10 = nI rem' ∧ mm_I ν (q + 1) 12 = nI (Rd + 1) ∧ (∀ k, k ≠ 10 → k ≠ 12 → mm_I ν (q + 1) k = mm_I μ (q + 1) k)) → am_W E C (am_MQ E C (fun v μ' => v = none ∧ EndP μ μ' q L En Rd rem least) (rmX2_endRound).cells (rmX2_endRound).slots) ν 0 0 28 [some (.ref (q + 1))] [] := by
    intro ν dr' rem' hI
    refine am_aload_n fx dX2_endRound_28 rfl ?_
    refine am_aload_n fx dX2_endRound_29 rfl ?_
    obtain ⟨hDr, hre, hS, h15, h10, h12, hk⟩ := hI
    have hb2 : Bs ν := hb.fr hS.1
    have hr2 : Rc ν q L := hr.fr hS.1
    have ha2 : Ra ν q En (Rd + 1) := ⟨by rw [hk 4 (by decide) (by decide)]; exact ha.1, h12, hE, by omega⟩
    have hq0 : ∀ k, mm_I ν q k = mm_I μ q k := fun k => hS.2.1 _ _ (by unfold Sdw Sod; omega)
    refine am_iconst (v := 0) fx dX2_endRound_30 (by decide) ?_
    refine am_callV fx dX2_endRound_31 mkX2_97 (ct_X2_leftFrom hb2 hr2 ha2 0 (by decide)) (so2 hr2) ⟨by decide, rfl⟩ rfl (Nat.le_of_ble_eq_true rfl) ⟨by decide, by decide⟩ ⟨Nat.le_of_ble_eq_true rfl, Nat.le_of_ble_eq_true rfl⟩ rfl ?_
    rintro _ _ ⟨rfl, rfl⟩
    refine am_putI fx dX2_endRound_34 fkX2_29 (by decide) (by decide) rfl rfl (so2 hr2) ?_
    refine am_aload_n fx dX2_endRound_37 rfl ?_
    refine am_aload_n fx dX2_endRound_38 rfl ?_
    refine am_callV fx dX2_endRound_39 mkX2_73 (ct_X2_whyOver (hb2.fr (Fr.sI _ _ _ _)) (hr2.fr (Fr.sI _ _ _ _))) (so2 hr2) ⟨by decide, rfl⟩ rfl (Nat.le_of_ble_eq_true rfl) ⟨by decide, by decide⟩ ⟨Nat.le_of_ble_eq_true rfl, Nat.le_of_ble_eq_true rfl⟩ rfl ?_
    rintro _ _ ⟨rfl, rfl⟩
    refine am_putI fx dX2_endRound_42 fkX2_39 (by decide) (by decide) rfl rfl (so2 hr2) ?_
    exact am_vret fx dX2_endRound_45 ⟨rfl, dr', rem', hDr, hre, hS.tr ((Sm.sI _ (Or.inl rfl)).tr (Sm.sI _ (Or.inl rfl))), funext fun k => by rw [mI_ne (Or.inl (by omega)), mI_ne (Or.inl (by omega))]; exact congrFun h15 k, by rw [mI_ne (Or.inr (by decide)), mI_ne (Or.inr (by decide))]; exact h10, by rw [mI_ne (Or.inr (by decide)), mI_ne (Or.inr (by decide))]; exact h12, by rw [mI_ne (Or.inr (by decide)), mI_same, h15], by rw [mI_same, mI_ne (Or.inr (by decide)), mI_ne (Or.inl (by omega)), mI_ne (Or.inr (by decide)), mI_ne (Or.inl (by omega)), mI_ne (Or.inr (by decide)), h10, h12, hq0, hq0, hk 13 (by decide) (by decide)], fun k a b c d => by rw [mI_ne (Or.inr d), mI_ne (Or.inr b)]; exact hk k a c⟩
  refine am_aload_n fx dX2_endRound_10 rfl ?_
  refine am_getI fx dX2_endRound_11 fkX2_33 (by decide) (by decide) rfl (so2 hr1) ha1.2.1 ?_
  refine am_aload_n fx dX2_endRound_14 rfl ?_
  refine am_getR fx dX2_endRound_15 fkX2_50 (by decide) (by decide) rfl (so2 hr1) (rf2_2 hr1) ?_
  refine am_getI fx dX2_endRound_18 fkX2_103 (by decide) (by decide) rfl (so3 hr1) (h1 _ _ (by omega)) ?_
  refine am_icmp_lt fx 28 dX2_endRound_21 (by decide) (fun c21 => ?_) (fun c21 => ?_)
  · skip
    exact ct28 _ _ _ ⟨Or.inl ⟨c21, rfl, rfl⟩, Nat.le_refl _, Sm.sI _ (Or.inl rfl), funext fun k => h1 _ _ (by omega), by rw [mI_ne (Or.inr (by decide))]; exact hrem, mI_same _ _ _ _, fun k _ h12 => mI_ne (Or.inr h12)⟩
  · skip
    have c21 := Int32.not_lt.mp c21
    refine am_aload_n fx dX2_endRound_24 rfl ?_
    refine am_callV fx dX2_endRound_25 mkX2_106 (ct_X2_dropWorse hb1 hr1 ha1 (rem := rem) (least := least) (by rw [mI_ne (Or.inr (by decide))]; exact hrem) hr12 (by rw [h1 _ _ (by omega)]; exact hls) hl12 (fun s hs hl => by rw [h1 _ _ (by omega)]; exact hran s hs (by rw [← h1 _ _ (show q + 15 ≠ q + 1 by omega)]; exact hl)) (by obtain ⟨s, hs, hl⟩ := hex; exact ⟨s, hs, by rw [h1 _ _ (by omega)]; exact hl⟩)) (so2 hr1) ⟨by decide, rfl⟩ rfl (Nat.le_of_ble_eq_true rfl) ⟨by decide, by decide⟩ ⟨Nat.le_of_ble_eq_true rfl, Nat.le_of_ble_eq_true rfl⟩ rfl ?_
    rintro _ ν2 ⟨A, ld, rfl, hld, hS2, hP, hM, hAl, h15, h10, hk1, hFr⟩
    have hDr : DrP μ q En (Rd + 1) least (mm_I μ q 1) rem _ _ := DrP.of (ν := (mm_sI μ (q + 1) 12 (nI (Rd + 1)))) (Or.inr ⟨c21, A, ld, hld, hP, hM, hAl, rfl, hFr⟩) hE (funext fun k => h1 _ _ (by omega)) (fun x hx => funext fun k => h1 _ _ (by omega)) (fun k => h1 _ _ (by omega))
    exact ct28 _ _ _ ⟨hDr, hFr, (Sm.sI _ (Or.inl rfl)).tr hS2, h15, h10, (hk1 12 (by decide)).trans (mI_same _ _ _ _), fun k h9 h12 => (hk1 k h9).trans (mI_ne (Or.inr h12))⟩
