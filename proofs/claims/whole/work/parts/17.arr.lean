/-- by rank, then by number -/
def lexR (rk : Nat → Nat) (x y : Nat) : Prop := rk x < rk y ∨ (rk x = rk y ∧ x < y)
theorem lexR.tr {rk : Nat → Nat} {x y z : Nat} (h : lexR rk x y) (h2 : lexR rk y z) : lexR rk x z := by unfold lexR at *; omega
theorem lexR.irr {rk : Nat → Nat} {x : Nat} : ¬ lexR rk x x := by unfold lexR; omega
def insA (A : List Nat) (p s : Nat) : List Nat := A.take p ++ s :: A.drop p
theorem insA_len (A : List Nat) (p s : Nat) (hp : p ≤ A.length) : (insA A p s).length = A.length + 1 := by simp [insA]; omega
theorem insA_mem {A : List Nat} {p s x : Nat} : x ∈ insA A p s ↔ x = s ∨ x ∈ A := by
  unfold insA
  rw [List.mem_append, List.mem_cons]
  constructor
  · rintro (h | h | h)
    · exact Or.inr (List.mem_of_mem_take h)
    · exact Or.inl h
    · exact Or.inr (List.mem_of_mem_drop h)
  · rintro (h | h)
    · exact Or.inr (Or.inl h)
    · rw [← List.take_append_drop p A] at h
      rcases List.mem_append.mp h with q | q
      · exact Or.inl q
      · exact Or.inr (Or.inr q)
theorem insA_at {A : List Nat} {p s j x : Nat} (hp : p ≤ A.length) (h : (insA A p s)[j]? = some x) : (j < p ∧ A[j]? = some x) ∨ (j = p ∧ x = s) ∨ (p < j ∧ A[j - 1]? = some x) := by
  unfold insA at h
  have hl : (A.take p).length = p := by simp; omega
  rcases Nat.lt_trichotomy j p with q | q | q
  · rw [List.getElem?_append_left (by omega), List.getElem?_take, if_pos q] at h
    exact Or.inl ⟨q, h⟩
  · rw [List.getElem?_append_right (by omega), hl, q, Nat.sub_self] at h
    simp at h
    exact Or.inr (Or.inl ⟨q, h.symm⟩)
  · rw [List.getElem?_append_right (by omega), hl] at h
    obtain ⟨d, hd⟩ : ∃ d, j - p = d + 1 := ⟨j - p - 1, by omega⟩
    rw [hd, List.getElem?_cons_succ, List.getElem?_drop] at h
    exact Or.inr (Or.inr ⟨q, by rw [show j - 1 = p + d by omega]; exact h⟩)
theorem insA_srt {rk : Nat → Nat} {A : List Nat} {p s : Nat} (hp : p ≤ A.length) (hA : A.Pairwise (lexR rk)) (hs : ∀ x ∈ A, x < s) (hlo : 0 < p → ∀ x, A[p - 1]? = some x → rk x ≤ rk s) (hhi : ∀ j x, p ≤ j → A[j]? = some x → rk s < rk x) : (insA A p s).Pairwise (lexR rk) := by
  unfold insA
  have h0 := hA
  rw [← List.take_append_drop p A, List.pairwise_append] at h0
  obtain ⟨h1, h2, h3⟩ := h0
  have hlow : ∀ x ∈ A.take p, rk x ≤ rk s := by
    intro x hx
    obtain ⟨j, hj⟩ := List.getElem?_of_mem hx
    have hjp : j < p := by
      have := (List.getElem?_eq_some_iff.mp hj).1
      simp at this
      omega
    rw [List.getElem?_take, if_pos hjp] at hj
    obtain ⟨y, hy⟩ : ∃ y, A[p - 1]? = some y := ⟨A[p - 1]'(by omega), List.getElem?_eq_getElem (by omega)⟩
    have h4 := hlo (by omega) y hy
    rcases Nat.lt_or_ge j (p - 1) with q | q
    · have h5 : lexR rk x y := by
        rw [List.pairwise_iff_getElem] at hA
        obtain ⟨a1, a2⟩ := List.getElem?_eq_some_iff.mp hj
        obtain ⟨b1, b2⟩ := List.getElem?_eq_some_iff.mp hy
        have := hA j (p - 1) a1 b1 q
        rw [a2, b2] at this
        exact this
      unfold lexR at h5
      omega
    · rw [show j = p - 1 by omega] at hj
      rw [hj] at hy
      cases hy
      exact h4
  rw [List.pairwise_append]
  refine ⟨h1, ?_, ?_⟩
  · rw [List.pairwise_cons]
    refine ⟨fun y hy => ?_, h2⟩
    obtain ⟨j, hj⟩ := List.getElem?_of_mem hy
    rw [List.getElem?_drop] at hj
    exact Or.inl (hhi (p + j) y (by omega) hj)
  · intro x hx y hy
    rcases List.mem_cons.mp hy with rfl | hy
    · have a := hlow x hx
      have b := hs x (List.mem_of_mem_take hx)
      unfold lexR
      omega
    · exact h3 x hx y hy
def shf (g : Nat → Int32) (p n : Nat) : Nat → Int32 := fun j => if p < j ∧ j ≤ n then g (j - 1) else g j
theorem shf_0 (g : Nat → Int32) (n : Nat) : shf g n n = g := by funext j; simp only [shf]; rw [if_neg (by omega)]
theorem shf_s (g : Nat → Int32) {p n : Nat} (hp : 0 < p) (hn : p ≤ n) (j : Nat) : upd (shf g p n) p (shf g p n (p - 1)) j = shf g (p - 1) n j := by
  simp only [upd, shf]
  by_cases h : j = p
  · subst h
    rw [if_pos rfl, if_neg (by omega), if_pos (by omega)]
  · rw [if_neg h]
    by_cases h2 : p < j ∧ j ≤ n
    · rw [if_pos h2, if_pos (by omega)]
    · rw [if_neg h2, if_neg (by omega)]
def Sar (q a : Nat) : Prop := a = q + 17 ∨ a = q + 18
abbrev rkF (μ : am_M) (q Rd En : Nat) : Nat → Nat := fun x => rkN (lft μ q) (tkn μ q) Rd x En
theorem rkA_congr {ts ts' to to' : Nat → Int32} : ∀ {r : Nat}, (∀ j, j < r → ts j = ts' j ∧ to j = to' j) → rkA ts to r = rkA ts' to' r
  | 0, _ => rfl
  | r + 1, h => by simp only [rkA]; rw [rkA_congr (r := r) (fun j hj => h j (by omega)), (h r (by omega)).1, (h r (by omega)).2]
theorem rkN_congr {lf lf' : Nat → Bool} {tk tk' : Nat → Nat → Int32} {Rd s : Nat} (hs : ∀ j, j < Rd → tk s j = tk' s j) : ∀ {o : Nat}, (∀ x, x < o → lf x = lf' x ∧ ∀ j, j < Rd → tk x j = tk' x j) → rkN lf tk Rd s o = rkN lf' tk' Rd s o
  | 0, _ => rfl
  | o + 1, h => by
    simp only [rkN]
    rw [rkN_congr hs (o := o) (fun x hx => h x (by omega)), (h o (by omega)).1, rkA_congr (fun j hj => ⟨hs j hj, (h o (by omega)).2 j hj⟩)]
theorem rkF_eq {μ ν : am_M} {q Rd En s : Nat} (h15 : ∀ k, mm_I ν (q + 15) k = mm_I μ (q + 15) k) (htk : ∀ x k, x < 12 → mm_I ν (q + 3 + x) k = mm_I μ (q + 3 + x) k) (hE : En ≤ 12) (hs : s < 12) : rkF ν q Rd En s = rkF μ q Rd En s :=
  rkN_congr (lf := lft ν q) (lf' := lft μ q) (tk := tkn ν q) (tk' := tkn μ q) (fun j _ => htk s j hs) (fun x hx => ⟨by show decide (mm_I ν (q + 15) x = 0) = decide (mm_I μ (q + 15) x = 0); rw [h15], fun j _ => htk x j (by omega)⟩)
theorem arr_sh {ν2 : am_M} {q pl n : Nat} {g h : Nat → Int32} (h0 : 0 < pl) (hpl : pl ≤ n) (hF : ∀ j, mm_I ν2 (q + 17) j = shf g pl n j ∧ mm_I ν2 (q + 18) j = shf h pl n j) (j : Nat) :
    mm_I (mm_sI (mm_sI ν2 (q + 17) pl (shf g pl n (pl - 1))) (q + 18) pl (shf h pl n (pl - 1))) (q + 17) j = shf g (pl - 1) n j ∧ mm_I (mm_sI (mm_sI ν2 (q + 17) pl (shf g pl n (pl - 1))) (q + 18) pl (shf h pl n (pl - 1))) (q + 18) j = shf h (pl - 1) n j := by
  rw [← shf_s g h0 hpl j, ← shf_s h h0 hpl j]
  unfold upd
  constructor
  · rw [mI_ne (Or.inl (by omega)), mI_sI]
    by_cases e : j = pl
    · rw [if_pos ⟨rfl, e⟩, if_pos e]
    · rw [if_neg (fun z => e z.2), if_neg e]; exact (hF j).1
  · rw [mI_sI]
    by_cases e : j = pl
    · rw [if_pos ⟨rfl, e⟩, if_pos e]
    · rw [if_neg (fun z => e z.2), if_neg e, mI_ne (Or.inl (by omega))]; exact (hF j).2
theorem arr_at {ν2 : am_M} {q pl s : Nat} {A : List Nat} {rk : Nat → Nat} {g h : Nat → Int32} (hpl : pl ≤ A.length) (hF : ∀ j, mm_I ν2 (q + 17) j = shf g pl A.length j ∧ mm_I ν2 (q + 18) j = shf h pl A.length j) (hG : ∀ j x, A[j]? = some x → g j = nI x ∧ h j = nI (rk x)) :
    ∀ j x, (insA A pl s)[j]? = some x → mm_I (mm_sI (mm_sI ν2 (q + 17) pl (nI s)) (q + 18) pl (nI (rk s))) (q + 17) j = nI x ∧ mm_I (mm_sI (mm_sI ν2 (q + 17) pl (nI s)) (q + 18) pl (nI (rk s))) (q + 18) j = nI (rk x) := by
  intro j x hx
  rcases insA_at hpl hx with ⟨h1, h2⟩ | ⟨rfl, rfl⟩ | ⟨h1, h2⟩
  · rw [mI_ne (Or.inl (by omega)), mI_ne (Or.inr (by omega)), mI_ne (Or.inr (by omega)), mI_ne (Or.inl (by omega)), (hF j).1, (hF j).2, shf, shf, if_neg (by omega), if_neg (by omega)]
    exact hG j x h2
  · rw [mI_ne (Or.inl (by omega)), mI_same, mI_same]
    exact ⟨rfl, rfl⟩
  · have hl := (List.getElem?_eq_some_iff.mp h2).1
    rw [mI_ne (Or.inl (by omega)), mI_ne (Or.inr (by omega)), mI_ne (Or.inr (by omega)), mI_ne (Or.inl (by omega)), (hF j).1, (hF j).2, shf, shf, if_pos (by omega), if_pos (by omega)]
    exact hG _ x h2
set_option maxRecDepth 100000 in
set_option maxHeartbeats 4000000 in
theorem ct_X2_arrange {E : am_E} {μ : am_M} (hb : Bs μ) {q L : Nat} (hr : Rc μ q L) {En Rd : Nat} (ha : Ra μ q En Rd) : am_Ct E yX2_arrange cX2_arrange 5 (some .int) rmX2_arrange [.ref (q + 1)] μ (fun v μ' => ∃ A : List Nat, v = some (.int (nI A.length)) ∧ Sm (Sar q) μ μ' ∧ A.Pairwise (lexR (rkF μ q Rd En)) ∧ (∀ x, x ∈ A ↔ x < En ∧ mm_I μ (q + 15) x = 0) ∧ A.length ≤ En ∧ (∀ j x, A[j]? = some x → mm_I μ' (q + 17) j = nI x)) := by
  refine am_Ct.of (ls := [some (.ref (q + 1)), none, none, none, none]) (by decide) (Nat.le_of_ble_eq_true rfl) rfl (fun C fx hnm => ?_)
  have hE := ha.e
  have hR := ha.r
  have hL := hr.l
  have hq := hr.qq
  refine am_iconst (v := 0) fx dX2_arrange_0 (by decide) ?_
  refine am_istore_n fx dX2_arrange_1 (by decide) rfl ?_
  refine am_iconst (v := 0) fx dX2_arrange_2 (by decide) ?_
  refine am_istore_n fx dX2_arrange_3 (by decide) rfl ?_
  have lp4 : ∀ (mz : Nat) (s : Nat) (A : List Nat) (ν : am_M), En - s = mz → (s ≤ En ∧ Sm (Sar q) μ ν ∧ A.Pairwise (lexR (rkF μ q Rd En)) ∧ (∀ x, x ∈ A ↔ x < s ∧ mm_I μ (q + 15) x = 0) ∧ A.length ≤ s ∧ (∀ j x, A[j]? = some x → mm_I ν (q + 17) j = nI x ∧ mm_I ν (q + 18) j = nI ((rkF μ q Rd En) x))) → am_W E C (am_MQ E C (fun v μ' => ∃ A : List Nat, v = some (.int (nI A.length)) ∧ Sm (Sar q) μ μ' ∧ A.Pairwise (lexR (rkF μ q Rd En)) ∧ (∀ x, x ∈ A ↔ x < En ∧ mm_I μ (q + 15) x = 0) ∧ A.length ≤ En ∧ (∀ j x, A[j]? = some x → mm_I μ' (q + 17) j = nI x)) (rmX2_arrange).cells (rmX2_arrange).slots) ν 0 0 4 [some (.ref (q + 1)), some (.int (nI A.length)), some (.int (nI s)), none, none] [] := by
    intro mz
    induction mz using Nat.strongRecOn with
    | ind mz ih =>
      intro s A ν hz hI
      obtain ⟨hs, hS, hP, hM, hAl, hG⟩ := hI
      have hb2 : Bs ν := hb.fr hS.1
      have hr2 : Rc ν q L := hr.fr hS.1
      have hd : ∀ x k, ¬ Sar q x → mm_I ν x k = mm_I μ x k := fun x k hx => hS.2.1 x k hx
      have ha2 : Ra ν q En Rd := ⟨by rw [hd _ _ (by unfold Sar; omega)]; exact ha.1, by rw [hd _ _ (by unfold Sar; omega)]; exact ha.2.1, hE, hR⟩
      have hlf : ∀ k, mm_I ν (q + 15) k = mm_I μ (q + 15) k := fun k => hd _ _ (by unfold Sar; omega)
      refine am_iload_n fx dX2_arrange_4 rfl ?_
      refine am_aload_n fx dX2_arrange_5 rfl ?_
      refine am_getI fx dX2_arrange_6 fkX2_66 (by decide) (by decide) rfl (so2 hr2) ha2.1 ?_
      refine am_icmp_ge fx 110 dX2_arrange_9 (by decide) (fun c9 => ?_) (fun c9 => ?_)
      · try simp (disch := omega) only [bz_0, Classical.not_not, Int32.not_le, Int32.not_lt, Nat.not_le, Nat.not_lt, nI_leI, nI_ltI, nI_eq, nI_le0, nI_lt0] at c9
        refine am_iload_n fx dX2_arrange_110 rfl ?_
        exact am_iret fx dX2_arrange_111 ⟨A, rfl, hS, hP, fun x => by rw [hM x, show s = En by omega], by omega, fun j x h => (hG j x h).1⟩
      · try simp (disch := omega) only [bz_0, Classical.not_not, Int32.not_le, Int32.not_lt, Nat.not_le, Nat.not_lt, nI_leI, nI_ltI, nI_eq, nI_le0, nI_lt0] at c9
        refine am_aload_n fx dX2_arrange_12 rfl ?_
        refine am_iload_n fx dX2_arrange_13 rfl ?_
        refine am_callV fx dX2_arrange_14 mkX2_85 (ct_X2_isLeftN hb2 hr2 ha2 s (by assumption)) (so2 hr2) ⟨by decide, rfl⟩ rfl (Nat.le_of_ble_eq_true rfl) ⟨by decide, by decide⟩ ⟨Nat.le_of_ble_eq_true rfl, Nat.le_of_ble_eq_true rfl⟩ rfl ?_
        rintro _ _ ⟨rfl, rfl⟩
        refine am_if_eq fx 104 dX2_arrange_17 (by decide) (fun c17 => ?_) (fun c17 => ?_)
        · try simp (disch := omega) only [bz_0, Classical.not_not, Int32.not_le, Int32.not_lt, Nat.not_le, Nat.not_lt, nI_leI, nI_ltI, nI_eq, nI_le0, nI_lt0] at c17
          rw [hlf] at c17
          first | refine am_iinc fx dX2_arrange_104 rfl (nI_inc _) (by decide) rfl ?_ | refine am_iinc fx dX2_arrange_104 rfl rfl (by decide) rfl ?_
          refine am_goto fx 4 dX2_arrange_107 (by decide) ?_
          exact ih (En - (s + 1)) (by omega) (s + 1) A ν rfl ⟨by omega, hS, hP, fun x => (hM x).trans ⟨fun z => ⟨by omega, z.2⟩, fun z => ⟨by rcases Nat.lt_or_ge x s with y | y; exact y; rw [show x = s by omega] at z; exact absurd z.2 c17, z.2⟩⟩, by omega, hG⟩
        · try simp (disch := omega) only [bz_0, Classical.not_not, Int32.not_le, Int32.not_lt, Nat.not_le, Nat.not_lt, nI_leI, nI_ltI, nI_eq, nI_le0, nI_lt0] at c17
          rw [hlf] at c17
          refine am_aload_n fx dX2_arrange_20 rfl ?_
          refine am_iload_n fx dX2_arrange_21 rfl ?_
          refine am_callV fx dX2_arrange_22 mkX2_128 (ct_X2_rankOf hb2 hr2 ha2 s (by omega)) (so2 hr2) ⟨by decide, rfl⟩ rfl (Nat.le_of_ble_eq_true rfl) ⟨by decide, by decide⟩ ⟨Nat.le_of_ble_eq_true rfl, Nat.le_of_ble_eq_true rfl⟩ rfl ?_
          rintro _ _ ⟨rfl, rfl⟩
          refine am_topi (show _ = nI ((rkF μ q Rd En) s) by rw [← rkF_eq hlf (fun x k hx => hd _ _ (by unfold Sar; omega)) hE (by omega)]) ?_
          refine am_istore_n fx dX2_arrange_25 (by decide) rfl ?_
          refine am_iload_n fx dX2_arrange_26 rfl ?_
          refine am_istore fx dX2_arrange_27 (by decide) rfl ?_
          have lp29 : ∀ (mz : Nat) (pl : Nat) (ν2 : am_M), pl = mz → (pl ≤ A.length ∧ Sm (Sar q) μ ν2 ∧ (∀ j, mm_I ν2 (q + 17) j = shf (mm_I ν (q + 17)) pl A.length j ∧ mm_I ν2 (q + 18) j = shf (mm_I ν (q + 18)) pl A.length j) ∧ (∀ j x, pl ≤ j → A[j]? = some x → (rkF μ q Rd En) s < (rkF μ q Rd En) x)) → am_W E C (am_MQ E C (fun v μ' => ∃ A : List Nat, v = some (.int (nI A.length)) ∧ Sm (Sar q) μ μ' ∧ A.Pairwise (lexR (rkF μ q Rd En)) ∧ (∀ x, x ∈ A ↔ x < En ∧ mm_I μ (q + 15) x = 0) ∧ A.length ≤ En ∧ (∀ j x, A[j]? = some x → mm_I μ' (q + 17) j = nI x)) (rmX2_arrange).cells (rmX2_arrange).slots) ν2 0 0 29 [some (.ref (q + 1)), some (.int (nI A.length)), some (.int (nI s)), some (.int (nI ((rkF μ q Rd En) s))), some (.int (nI pl))] [] := by
            intro mz
            induction mz using Nat.strongRecOn with
            | ind mz ih2 =>
              intro pl ν2 hz2 hJ
              obtain ⟨hpl, hT, hF, hH⟩ := hJ
              have hb3 : Bs ν2 := hb.fr hT.1
              have hr3 : Rc ν2 q L := hr.fr hT.1
              have he : ∀ x k, ¬ Sar q x → mm_I ν2 x k = mm_I μ x k := fun x k hx => hT.2.1 x k hx
              have ha3 : Ra ν2 q En Rd := ⟨by rw [he _ _ (by unfold Sar; omega)]; exact ha.1, by rw [he _ _ (by unfold Sar; omega)]; exact ha.2.1, hE, hR⟩
              have hlg : ∀ k, mm_I ν2 (q + 15) k = mm_I μ (q + 15) k := fun k => he _ _ (by unfold Sar; omega)
              have hrs : (rkF μ q Rd En) s ≤ 600 := rkN_top _ _ hR hE
              refine am_iload fx dX2_arrange_29 rfl ?_
              refine am_if_le fx 85 dX2_arrange_31 (by decide) (fun c31 => ?_) (fun c31 => ?_)
              · try simp (disch := omega) only [bz_0, Classical.not_not, Int32.not_le, Int32.not_lt, Nat.not_le, Nat.not_lt, nI_leI, nI_ltI, nI_eq, nI_le0, nI_lt0] at c31
                have hlo : 0 < pl → ∀ x, A[pl - 1]? = some x → (rkF μ q Rd En) x ≤ (rkF μ q Rd En) s := fun h => by omega
                refine am_aload_n fx dX2_arrange_85 rfl ?_
                refine am_getR fx dX2_arrange_86 fkX2_23 (by decide) (by decide) rfl (so2 hr3) (rf2_8 hr3) ?_
                refine am_iload fx dX2_arrange_89 rfl ?_
                refine am_iload_n fx dX2_arrange_91 rfl ?_
                refine am_iast  fx dX2_arrange_92 (sa2_8 hr3) rfl (by omega) (by decide) ?_
                refine am_aload_n fx dX2_arrange_93 rfl ?_
                refine am_getR fx dX2_arrange_94 fkX2_26 (by decide) (by decide) rfl (so2 hr3) (rf2_9 hr3) ?_
                refine am_iload fx dX2_arrange_97 rfl ?_
                refine am_iload_n fx dX2_arrange_99 rfl ?_
                refine am_iast  fx dX2_arrange_100 (sa2_9 hr3) rfl (by omega) (by decide) ?_
                first | refine am_iinc fx dX2_arrange_101 rfl (nI_inc _) (by decide) rfl ?_ | refine am_iinc fx dX2_arrange_101 rfl rfl (by decide) rfl ?_
                first | refine am_iinc fx dX2_arrange_104 rfl (nI_inc _) (by decide) rfl ?_ | refine am_iinc fx dX2_arrange_104 rfl rfl (by decide) rfl ?_
                refine am_goto fx 4 dX2_arrange_107 (by decide) ?_
                refine am_sub [true, true, true, false, false] rfl ?_
                have hnew := ih (En - (s + 1)) (by omega) (s + 1) (insA A pl s) (mm_sI (mm_sI ν2 (q + 17) pl (nI s)) (q + 18) pl (nI ((rkF μ q Rd En) s))) rfl ⟨by omega, hT.tr ((Sm.sI _ (Or.inl rfl)).tr (Sm.sI _ (Or.inr rfl))), insA_srt hpl hP (fun x hx => ((hM x).mp hx).1) hlo hH, fun x => insA_mem.trans ⟨fun z => by rcases z with rfl | z; exact ⟨by omega, c17⟩; exact ⟨by have := ((hM x).mp z).1; omega, ((hM x).mp z).2⟩, fun z => by rcases Nat.lt_or_ge x s with y | y; exact Or.inr ((hM x).mpr ⟨y, z.2⟩); exact Or.inl (by omega)⟩, by rw [insA_len A pl s hpl]; omega, arr_at (rk := (rkF μ q Rd En)) hpl hF hG⟩
                rw [insA_len A pl s hpl] at hnew
                exact hnew
              · try simp (disch := omega) only [bz_0, Classical.not_not, Int32.not_le, Int32.not_lt, Nat.not_le, Nat.not_lt, nI_leI, nI_ltI, nI_eq, nI_le0, nI_lt0] at c31
                refine am_aload_n fx dX2_arrange_34 rfl ?_
                obtain ⟨x0, hx0⟩ : ∃ x, A[pl - 1]? = some x := ⟨A[pl - 1]'(by omega), List.getElem?_eq_getElem (by omega)⟩
                have hrx : (rkF μ q Rd En) x0 ≤ 600 := rkN_top _ _ hR hE
                refine am_getR fx dX2_arrange_35 fkX2_26 (by decide) (by decide) rfl (so2 hr3) (rf2_9 hr3) ?_
                refine am_iload fx dX2_arrange_38 rfl ?_
                refine am_iconst (v := 1) fx dX2_arrange_40 (by decide) ?_
                refine am_isub fx dX2_arrange_41 ?_
                refine am_topi (nI_pred1 (by omega)) ?_
                refine am_iald  fx dX2_arrange_42 (sa2_9 hr3) rfl (by omega) (by decide) (show _ = nI ((rkF μ q Rd En) x0) by rw [(hF _).2, shf, if_neg (by omega)]; exact (hG _ _ hx0).2) ?_
                refine am_iload_n fx dX2_arrange_43 rfl ?_
                refine am_icmp_le fx 85 dX2_arrange_44 (by decide) (fun c44 => ?_) (fun c44 => ?_)
                · try simp (disch := omega) only [bz_0, Classical.not_not, Int32.not_le, Int32.not_lt, Nat.not_le, Nat.not_lt, nI_leI, nI_ltI, nI_eq, nI_le0, nI_lt0] at c44
                  have hlo : 0 < pl → ∀ x, A[pl - 1]? = some x → (rkF μ q Rd En) x ≤ (rkF μ q Rd En) s := fun _ x hx => by rw [hx0] at hx; cases hx; exact c44
                  refine am_aload_n fx dX2_arrange_85 rfl ?_
                  refine am_getR fx dX2_arrange_86 fkX2_23 (by decide) (by decide) rfl (so2 hr3) (rf2_8 hr3) ?_
                  refine am_iload fx dX2_arrange_89 rfl ?_
                  refine am_iload_n fx dX2_arrange_91 rfl ?_
                  refine am_iast  fx dX2_arrange_92 (sa2_8 hr3) rfl (by omega) (by decide) ?_
                  refine am_aload_n fx dX2_arrange_93 rfl ?_
                  refine am_getR fx dX2_arrange_94 fkX2_26 (by decide) (by decide) rfl (so2 hr3) (rf2_9 hr3) ?_
                  refine am_iload fx dX2_arrange_97 rfl ?_
                  refine am_iload_n fx dX2_arrange_99 rfl ?_
                  refine am_iast  fx dX2_arrange_100 (sa2_9 hr3) rfl (by omega) (by decide) ?_
                  first | refine am_iinc fx dX2_arrange_101 rfl (nI_inc _) (by decide) rfl ?_ | refine am_iinc fx dX2_arrange_101 rfl rfl (by decide) rfl ?_
                  first | refine am_iinc fx dX2_arrange_104 rfl (nI_inc _) (by decide) rfl ?_ | refine am_iinc fx dX2_arrange_104 rfl rfl (by decide) rfl ?_
                  refine am_goto fx 4 dX2_arrange_107 (by decide) ?_
                  refine am_sub [true, true, true, false, false] rfl ?_
                  have hnew := ih (En - (s + 1)) (by omega) (s + 1) (insA A pl s) (mm_sI (mm_sI ν2 (q + 17) pl (nI s)) (q + 18) pl (nI ((rkF μ q Rd En) s))) rfl ⟨by omega, hT.tr ((Sm.sI _ (Or.inl rfl)).tr (Sm.sI _ (Or.inr rfl))), insA_srt hpl hP (fun x hx => ((hM x).mp hx).1) hlo hH, fun x => insA_mem.trans ⟨fun z => by rcases z with rfl | z; exact ⟨by omega, c17⟩; exact ⟨by have := ((hM x).mp z).1; omega, ((hM x).mp z).2⟩, fun z => by rcases Nat.lt_or_ge x s with y | y; exact Or.inr ((hM x).mpr ⟨y, z.2⟩); exact Or.inl (by omega)⟩, by rw [insA_len A pl s hpl]; omega, arr_at (rk := (rkF μ q Rd En)) hpl hF hG⟩
                  rw [insA_len A pl s hpl] at hnew
                  exact hnew
                · try simp (disch := omega) only [bz_0, Classical.not_not, Int32.not_le, Int32.not_lt, Nat.not_le, Nat.not_lt, nI_leI, nI_ltI, nI_eq, nI_le0, nI_lt0] at c44
                  have hgt : (rkF μ q Rd En) s < (rkF μ q Rd En) x0 := c44
                  refine am_aload_n fx dX2_arrange_47 rfl ?_
                  refine am_getR fx dX2_arrange_48 fkX2_23 (by decide) (by decide) rfl (so2 hr3) (rf2_8 hr3) ?_
                  refine am_iload fx dX2_arrange_51 rfl ?_
                  refine am_aload_n fx dX2_arrange_53 rfl ?_
                  refine am_getR fx dX2_arrange_54 fkX2_23 (by decide) (by decide) rfl (so2 hr3) (rf2_8 hr3) ?_
                  refine am_iload fx dX2_arrange_57 rfl ?_
                  refine am_iconst (v := 1) fx dX2_arrange_59 (by decide) ?_
                  refine am_isub fx dX2_arrange_60 ?_
                  refine am_topi (nI_pred1 (by omega)) ?_
                  refine am_iald  fx dX2_arrange_61 (sa2_8 hr3) rfl (by omega) (by decide) ((hF _).1) ?_
                  refine am_iast  fx dX2_arrange_62 (sa2_8 hr3) rfl (by omega) (by decide) ?_
                  refine am_aload_n fx dX2_arrange_63 rfl ?_
                  refine am_getR fx dX2_arrange_64 fkX2_26 (by decide) (by decide) rfl (so2 hr3) (rf2_9 hr3) ?_
                  refine am_iload fx dX2_arrange_67 rfl ?_
                  refine am_aload_n fx dX2_arrange_69 rfl ?_
                  refine am_getR fx dX2_arrange_70 fkX2_26 (by decide) (by decide) rfl (so2 hr3) (rf2_9 hr3) ?_
                  refine am_iload fx dX2_arrange_73 rfl ?_
                  refine am_iconst (v := 1) fx dX2_arrange_75 (by decide) ?_
                  refine am_isub fx dX2_arrange_76 ?_
                  refine am_topi (nI_pred1 (by omega)) ?_
                  refine am_iald  fx dX2_arrange_77 (sa2_9 hr3) rfl (by omega) (by decide) (show _ = shf (mm_I ν (q + 18)) pl A.length (pl - 1) by rw [mI_ne (Or.inl (by omega))]; exact (hF _).2) ?_
                  refine am_iast  fx dX2_arrange_78 (sa2_9 hr3) rfl (by omega) (by decide) ?_
                  have sh2 := arr_sh (q := q) (by omega) hpl hF
                  first | refine am_iinc fx dX2_arrange_79 rfl (nI_dec (by omega)) (by decide) rfl ?_ | refine am_iinc fx dX2_arrange_79 rfl rfl (by decide) rfl ?_
                  refine am_goto fx 29 dX2_arrange_82 (by decide) ?_
                  exact ih2 (pl - 1) (by omega) (pl - 1) _ rfl ⟨by omega, hT.tr ((Sm.sI _ (Or.inl rfl)).tr (Sm.sI _ (Or.inr rfl))), sh2, fun j x h1 h2 => by rcases Nat.lt_or_ge j pl with y | y; rw [show j = pl - 1 by omega] at h2; rw [hx0] at h2; cases h2; exact hgt; exact hH j x y h2⟩
          exact lp29 _ A.length ν rfl ⟨Nat.le_refl _, hS, fun j => ⟨by rw [shf_0], by rw [shf_0]⟩, fun j x h1 h2 => by have := (List.getElem?_eq_some_iff.mp h2).1; omega⟩
  refine am_sub [true, true, true, false, false] rfl ?_
  exact lp4 _ 0 [] μ rfl ⟨by omega, Sm.rf _ _, List.Pairwise.nil, fun x => by simp, Nat.le_refl _, fun j x h => by simp at h⟩
