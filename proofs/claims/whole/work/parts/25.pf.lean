abbrev whB (μ : am_M) (N : Nat) : Nat → Bool := fun s => decide (mm_I μ 16 s = nI N)
def mnI (x y : Int32) : Int32 := if y < x then y else x
/-- the least cost of the first d -/
def mnF (cs : Nat → Int32) : Nat → Int32
  | 0 => 2000000
  | d + 1 => mnI (mnF cs d) (cs d)
def Spf (a : Nat) : Prop := a = 25 ∨ (26 ≤ a ∧ a ≤ 28) ∨ (30 ≤ a ∧ a ≤ 42)
theorem Tb.keep {μ ν : am_M} {S N : Nat} (h : Tb μ S N) (h4 : mm_I ν 2 4 = mm_I μ 2 4) (h5 : mm_I ν 2 5 = mm_I μ 2 5) : Tb ν S N := ⟨h4.trans h.1, h5.trans h.2.1, h.2.2⟩
theorem gw_st {μ : am_M} {N r : Nat} (h : (whB μ N) r = true) : mm_sI (mm_sI (mm_sI (mm_fI μ 26 (fil (whB μ N) (mm_I μ 26) r)) 25 4 (nI (cnt (whB μ N) r))) 26 (cnt (whB μ N) r) (nI r)) 25 4 (nI (cnt (whB μ N) r + 1)) = mm_sI (mm_fI μ 26 (fil (whB μ N) (mm_I μ 26) (r + 1))) 25 4 (nI (cnt (whB μ N) (r + 1))) := by
  have e1 : cnt (whB μ N) (r + 1) = cnt (whB μ N) r + 1 := by simp only [cnt]; rw [if_pos h]
  have e2 : fil (whB μ N) (mm_I μ 26) (r + 1) = upd (fil (whB μ N) (mm_I μ 26) r) (cnt (whB μ N) r) (nI r) := by simp only [fil]; rw [if_pos h]
  rw [e1, e2]
  refine am_ext rfl (fun a k => ?_) (fun _ _ => rfl) rfl rfl
  simp only [mI_sI, mI_fI, upd]
  repeat' split
  all_goals simp_all
set_option maxRecDepth 100000 in
set_option maxHeartbeats 4000000 in
theorem ct_X1_gatherWhole {E : am_E} {μ : am_M} (hb : Bs μ) {S N : Nat} (ht : Tb μ S N) : am_Ct E yX1_gatherWhole cX1_gatherWhole 3 none rmX1_gatherWhole [.ref 25, .ref 2] μ (fun v μ' => v = none ∧ μ' = mm_sI (mm_fI μ 26 (fil (whB μ N) (mm_I μ 26) S)) 25 4 (nI (cnt (whB μ N) S))) := by
  refine am_Ct.of (ls := [some (.ref 25), some (.ref 2), none]) (by decide) (Nat.le_of_ble_eq_true rfl) rfl (fun C fx hnm => ?_)
  have hS := ht.s
  have hN := ht.n
  refine am_aload_n fx dX1_gatherWhole_0 rfl ?_
  refine am_iconst (v := 0) fx dX1_gatherWhole_1 (by decide) ?_
  refine am_putI fx dX1_gatherWhole_2 fkX1_26 (by decide) (by decide) rfl rfl (so1 hb) ?_
  refine am_iconst (v := 0) fx dX1_gatherWhole_5 (by decide) ?_
  refine am_istore_n fx dX1_gatherWhole_6 (by decide) rfl ?_
  have lp7 : ∀ (mz : Nat) (r : Nat), S - r = mz → r ≤ S → am_W E C (am_MQ E C (fun v μ' => v = none ∧ μ' = mm_sI (mm_fI μ 26 (fil (whB μ N) (mm_I μ 26) S)) 25 4 (nI (cnt (whB μ N) S))) (rmX1_gatherWhole).cells (rmX1_gatherWhole).slots) (mm_sI (mm_fI μ 26 (fil (whB μ N) (mm_I μ 26) r)) 25 4 (nI (cnt (whB μ N) r))) 0 0 7 [some (.ref 25), some (.ref 2), some (.int (nI r))] [] := by
    intro mz
    induction mz using Nat.strongRecOn with
    | ind mz ih =>
      intro r hz hr
      have hb2 : Bs (mm_sI (mm_fI μ 26 (fil (whB μ N) (mm_I μ 26) r)) 25 4 (nI (cnt (whB μ N) r))) := hb.fr ⟨rfl, rfl, rfl⟩
      have ht2 : Tb (mm_sI (mm_fI μ 26 (fil (whB μ N) (mm_I μ 26) r)) 25 4 (nI (cnt (whB μ N) r))) S N := ht.keep rfl rfl
      have hc := cnt_le (whB μ N) r
      have e4 : mm_I (mm_sI (mm_fI μ 26 (fil (whB μ N) (mm_I μ 26) r)) 25 4 (nI (cnt (whB μ N) r))) 25 4 = nI (cnt (whB μ N) r) := mI_same _ _ _ _
      refine am_iload_n fx dX1_gatherWhole_7 rfl ?_
      refine am_aload_n fx dX1_gatherWhole_8 rfl ?_
      refine am_getI fx dX1_gatherWhole_9 fkX1_70 (by decide) (by decide) rfl (so5 hb2) ht2.1 ?_
      refine am_icmp_ge fx 49 dX1_gatherWhole_12 (by decide) (fun c12 => ?_) (fun c12 => ?_)
      · try simp (disch := omega) only [bz_0, Classical.not_not, Int32.not_le, Int32.not_lt, Nat.not_le, Nat.not_lt, nI_leI, nI_ltI, nI_eq, nI_le0, nI_lt0] at c12
        exact am_vret fx dX1_gatherWhole_49 ⟨rfl, by rw [show r = S by omega]⟩
      · try simp (disch := omega) only [bz_0, Classical.not_not, Int32.not_le, Int32.not_lt, Nat.not_le, Nat.not_lt, nI_leI, nI_ltI, nI_eq, nI_le0, nI_lt0] at c12
        refine am_aload_n fx dX1_gatherWhole_15 rfl ?_
        refine am_iload_n fx dX1_gatherWhole_16 rfl ?_
        refine am_callV fx dX1_gatherWhole_17 mkX1_75 (ct_X5_isWhole hb2 ht2 r (by assumption)) (so5 hb2) ⟨by decide, rfl⟩ rfl (Nat.le_of_ble_eq_true rfl) ⟨by decide, by decide⟩ ⟨Nat.le_of_ble_eq_true rfl, Nat.le_of_ble_eq_true rfl⟩ rfl ?_
        rintro _ _ ⟨rfl, rfl⟩
        refine am_if_eq fx 43 dX1_gatherWhole_20 (by decide) (fun c20 => ?_) (fun c20 => ?_)
        · try simp (disch := omega) only [bz_0, Classical.not_not, Int32.not_le, Int32.not_lt, Nat.not_le, Nat.not_lt, nI_leI, nI_ltI, nI_eq, nI_le0, nI_lt0] at c20
          rw [mI_ne (Or.inl (by decide)), mI_fIn (by decide)] at c20
          first | refine am_iinc fx dX1_gatherWhole_43 rfl (nI_inc _) (by decide) rfl ?_ | refine am_iinc fx dX1_gatherWhole_43 rfl rfl (by decide) rfl ?_
          refine am_goto fx 7 dX1_gatherWhole_46 (by decide) ?_
          exact am_mem (by simp only [fil, cnt]; rw [if_neg (by simpa using c20), if_neg (by simpa using c20)]; rfl) (ih (S - (r + 1)) (by omega) (r + 1) rfl (by omega))
        · try simp (disch := omega) only [bz_0, Classical.not_not, Int32.not_le, Int32.not_lt, Nat.not_le, Nat.not_lt, nI_leI, nI_ltI, nI_eq, nI_le0, nI_lt0] at c20
          rw [mI_ne (Or.inl (by decide)), mI_fIn (by decide)] at c20
          refine am_aload_n fx dX1_gatherWhole_23 rfl ?_
          refine am_getR fx dX1_gatherWhole_24 fkX1_9 (by decide) (by decide) rfl (so1 hb2) (rf1_0 hb2) ?_
          refine am_aload_n fx dX1_gatherWhole_27 rfl ?_
          refine am_getI fx dX1_gatherWhole_28 fkX1_26 (by decide) (by decide) rfl (so1 hb2) e4 ?_
          refine am_iload_n fx dX1_gatherWhole_31 rfl ?_
          refine am_iast  fx dX1_gatherWhole_32 (sa1_0 hb2) rfl (by omega) (by decide) ?_
          refine am_aload_n fx dX1_gatherWhole_33 rfl ?_
          refine am_dup_ref fx dX1_gatherWhole_34 ?_
          refine am_getI fx dX1_gatherWhole_35 fkX1_26 (by decide) (by decide) rfl (so1 hb2) ((mI_ne (Or.inl (by decide))).trans e4) ?_
          refine am_iconst (v := 1) fx dX1_gatherWhole_38 (by decide) ?_
          refine am_iadd fx dX1_gatherWhole_39 ?_
          refine am_topi (nI_1 _) ?_
          refine am_putI fx dX1_gatherWhole_40 fkX1_26 (by decide) (by decide) rfl rfl (so1 hb2) ?_
          first | refine am_iinc fx dX1_gatherWhole_43 rfl (nI_inc _) (by decide) rfl ?_ | refine am_iinc fx dX1_gatherWhole_43 rfl rfl (by decide) rfl ?_
          refine am_goto fx 7 dX1_gatherWhole_46 (by decide) ?_
          exact am_mem (gw_st (by simpa using c20)) (ih (S - (r + 1)) (by omega) (r + 1) rfl (by omega))
  refine am_mem (show _ = mm_sI (mm_fI μ 26 (fil (whB μ N) (mm_I μ 26) 0)) 25 4 (nI (cnt (whB μ N) 0)) by rw [show fil (whB μ N) (mm_I μ 26) 0 = mm_I μ 26 from rfl, fI_self]; rfl) ?_
  exact lp7 _ 0 rfl (by omega)
set_option maxRecDepth 100000 in
set_option maxHeartbeats 4000000 in
theorem ct_X1_joinCosts {E : am_E} {μ : am_M} (hb : Bs μ) {S N : Nat} (ht : Tb μ S N) (d s : Nat) (hd : d < 12) (hs : s < S) : am_Ct E yX1_joinCosts cX1_joinCosts 5 none rmX1_joinCosts [.ref 25, .ref 2, .int (nI d), .int (nI s)] μ (fun v μ' => v = none ∧ μ' = mm_fI μ (30 + (d + 1)) (fun i => if i < N then mnI (mm_I μ (30 + d) i) (mm_I μ (4 + s) i) else mm_I μ (30 + (d + 1)) i)) := by
  refine am_Ct.of (ls := [some (.ref 25), some (.ref 2), some (.int (nI d)), some (.int (nI s)), none]) (by decide) (Nat.le_of_ble_eq_true rfl) rfl (fun C fx hnm => ?_)
  have hS := ht.s
  have hN := ht.n
  refine am_iconst (v := 0) fx dX1_joinCosts_0 (by decide) ?_
  refine am_istore fx dX1_joinCosts_1 (by decide) rfl ?_
  have lp3 : ∀ (mz : Nat) (r : Nat), N - r = mz → r ≤ N → am_W E C (am_MQ E C (fun v μ' => v = none ∧ μ' = mm_fI μ (30 + (d + 1)) (fun i => if i < N then mnI (mm_I μ (30 + d) i) (mm_I μ (4 + s) i) else mm_I μ (30 + (d + 1)) i)) (rmX1_joinCosts).cells (rmX1_joinCosts).slots) (mm_fI μ (30 + (d + 1)) (fun i => if i < r then mnI (mm_I μ (30 + d) i) (mm_I μ (4 + s) i) else mm_I μ (30 + (d + 1)) i)) 0 0 3 [some (.ref 25), some (.ref 2), some (.int (nI d)), some (.int (nI s)), some (.int (nI r))] [] := by
    intro mz
    induction mz using Nat.strongRecOn with
    | ind mz ih =>
      intro r hz hr
      have hb2 : Bs (mm_fI μ (30 + (d + 1)) (fun i => if i < r then mnI (mm_I μ (30 + d) i) (mm_I μ (4 + s) i) else mm_I μ (30 + (d + 1)) i)) := hb.fr (Fr.fI _ _ _)
      have ht2 : Tb (mm_fI μ (30 + (d + 1)) (fun i => if i < r then mnI (mm_I μ (30 + d) i) (mm_I μ (4 + s) i) else mm_I μ (30 + (d + 1)) i)) S N := ht.keep (mI_fIn (by omega)) (mI_fIn (by omega))
      refine am_iload fx dX1_joinCosts_3 rfl ?_
      refine am_aload_n fx dX1_joinCosts_5 rfl ?_
      refine am_getI fx dX1_joinCosts_6 fkX1_82 (by decide) (by decide) rfl (so5 hb2) ht2.2.1 ?_
      refine am_icmp_ge fx 48 dX1_joinCosts_9 (by decide) (fun c9 => ?_) (fun c9 => ?_)
      · try simp (disch := omega) only [bz_0, Classical.not_not, Int32.not_le, Int32.not_lt, Nat.not_le, Nat.not_lt, nI_leI, nI_ltI, nI_eq, nI_le0, nI_lt0] at c9
        exact am_vret fx dX1_joinCosts_48 ⟨rfl, by rw [show r = N by omega]⟩
      · try simp (disch := omega) only [bz_0, Classical.not_not, Int32.not_le, Int32.not_lt, Nat.not_le, Nat.not_lt, nI_leI, nI_ltI, nI_eq, nI_le0, nI_lt0] at c9
        refine am_aload_n fx dX1_joinCosts_12 rfl ?_
        refine am_getR fx dX1_joinCosts_13 fkX1_23 (by decide) (by decide) rfl (so1 hb2) (rf1_3 hb2) ?_
        refine am_iload_n fx dX1_joinCosts_16 rfl ?_
        refine am_iconst (v := 1) fx dX1_joinCosts_17 (by decide) ?_
        refine am_iadd fx dX1_joinCosts_18 ?_
        refine am_topi (nI_1 d) ?_
        refine am_aald  fx dX1_joinCosts_19 (sa1_3 hb2) rfl (by omega) (by decide) (rg1_3 hb2 (by omega)) ?_
        refine am_iload fx dX1_joinCosts_20 rfl ?_
        refine am_aload_n fx dX1_joinCosts_22 rfl ?_
        refine am_getR fx dX1_joinCosts_23 fkX1_23 (by decide) (by decide) rfl (so1 hb2) (rf1_3 hb2) ?_
        refine am_iload_n fx dX1_joinCosts_26 rfl ?_
        refine am_aald  fx dX1_joinCosts_27 (sa1_3 hb2) rfl (by omega) (by decide) (rg1_3 hb2 (by omega)) ?_
        refine am_iload fx dX1_joinCosts_28 rfl ?_
        refine am_iald  fx dX1_joinCosts_30 (sg1_3 hb2 (by omega)) rfl (by omega) (by decide) (mI_fIn (by omega)) ?_
        refine am_aload_n fx dX1_joinCosts_31 rfl ?_
        refine am_iload_n fx dX1_joinCosts_32 rfl ?_
        refine am_iload fx dX1_joinCosts_33 rfl ?_
        refine am_callV fx dX1_joinCosts_35 mkX1_85 (ct_X5_costAt hb2 ht2 (nI s) (nI r)) (so5 hb2) ⟨by decide, rfl⟩ rfl (Nat.le_of_ble_eq_true rfl) ⟨by decide, by decide⟩ ⟨Nat.le_of_ble_eq_true rfl, Nat.le_of_ble_eq_true rfl⟩ rfl ?_
        rintro _ _ ⟨rfl, rfl⟩
        rw [co_in hs (by omega) hS hN, mI_fIn (by omega)]
        refine am_mmin fx dX1_joinCosts_38 moX1_40 kw_smin knJ9 kw_cmin ⟨by decide, Nat.le_of_ble_eq_true rfl, Nat.le_of_ble_eq_true rfl, Nat.le_of_ble_eq_true rfl⟩ (rfl : _ = mnI (mm_I μ (30 + d) r) (mm_I μ (4 + s) r)) ?_
        refine am_iast  fx dX1_joinCosts_41 (sg1_3 hb2 (by omega)) rfl (by omega) (by decide) ?_
        first | refine am_iinc fx dX1_joinCosts_42 rfl (nI_inc _) (by decide) rfl ?_ | refine am_iinc fx dX1_joinCosts_42 rfl rfl (by decide) rfl ?_
        refine am_goto fx 3 dX1_joinCosts_45 (by decide) ?_
        exact am_mem (by rw [sI_fI]; congr 1; funext k; simp only [upd]; by_cases h : k = r; subst h; simp; by_cases h2 : k < r; simp [h, h2, Nat.lt_succ_of_lt h2]; rw [if_neg h, if_neg h2, if_neg (by omega)]) (ih (N - (r + 1)) (by omega) (r + 1) rfl (by omega))
  refine am_mem (show μ = mm_fI μ (30 + (d + 1)) (fun i => if i < 0 then mnI (mm_I μ (30 + d) i) (mm_I μ (4 + s) i) else mm_I μ (30 + (d + 1)) i) from ?_) ?_
  · simp only [Nat.not_lt_zero, if_false]
    exact (fI_self μ _).symm
  exact lp3 _ 0 rfl (by omega)
set_option maxRecDepth 100000 in
set_option maxHeartbeats 4000000 in
theorem ct_X1_memberAt {E : am_E} {μ : am_M} (hb : Bs μ) (i k : Nat) (hi : i < k) (hk : mm_I μ 25 5 = nI k) (h12 : k ≤ 12) : am_Ct E yX1_memberAt cX1_memberAt 2 (some .int) rmX1_memberAt [.ref 25, .int (nI i)] μ (fun v μ' => v = some (.int (mm_I μ 28 i)) ∧ μ = μ') := by
  refine am_Ct.of (ls := [some (.ref 25), some (.int (nI i))]) (by decide) (Nat.le_of_ble_eq_true rfl) rfl (fun C fx hnm => ?_)
  refine am_iload_n fx dX1_memberAt_0 rfl ?_
  refine am_if_lt fx 21 dX1_memberAt_1 (by decide) (fun c1 => ?_) (fun c1 => ?_)
  · try simp (disch := omega) only [bz_0, Classical.not_not, Int32.not_le, Int32.not_lt, Nat.not_le, Nat.not_lt, nI_leI, nI_ltI, nI_eq, nI_le0, nI_lt0] at c1
  · try simp (disch := omega) only [bz_0, Classical.not_not, Int32.not_le, Int32.not_lt, Nat.not_le, Nat.not_lt, nI_leI, nI_ltI, nI_eq, nI_le0, nI_lt0] at c1
    refine am_iload_n fx dX1_memberAt_4 rfl ?_
    refine am_aload_n fx dX1_memberAt_5 rfl ?_
    refine am_getI fx dX1_memberAt_6 fkX1_30 (by decide) (by decide) rfl (so1 hb) hk ?_
    refine am_icmp_ge fx 21 dX1_memberAt_9 (by decide) (fun c9 => ?_) (fun c9 => ?_)
    · try simp (disch := omega) only [bz_0, Classical.not_not, Int32.not_le, Int32.not_lt, Nat.not_le, Nat.not_lt, nI_leI, nI_ltI, nI_eq, nI_le0, nI_lt0] at c9
      exact absurd c9 (by omega)
    · try simp (disch := omega) only [bz_0, Classical.not_not, Int32.not_le, Int32.not_lt, Nat.not_le, Nat.not_lt, nI_leI, nI_ltI, nI_eq, nI_le0, nI_lt0] at c9
      refine am_aload_n fx dX1_memberAt_12 rfl ?_
      refine am_getR fx dX1_memberAt_13 fkX1_18 (by decide) (by decide) rfl (so1 hb) (rf1_2 hb) ?_
      refine am_iload_n fx dX1_memberAt_16 rfl ?_
      refine am_iald  fx dX1_memberAt_17 (sa1_2 hb) rfl (by omega) (by decide) rfl ?_
      refine am_goto fx 22 dX1_memberAt_18 (by decide) ?_
      exact am_iret fx dX1_memberAt_22 ⟨rfl, rfl⟩
/-- k places p are laid, and the rows of least costs up to depth e -/
def PL (μ : am_M) (N : Nat) (wf : Nat → Nat) (p : Nat → Nat) (k e : Nat) : Prop := (∀ j, j < k → mm_I μ 27 j = nI (p j)) ∧ (∀ d i, d ≤ e → i < N → mm_I μ (30 + d) i = mnF (fun j => mm_I μ (4 + wf (p j)) i) d)
def Spr (a : Nat) : Prop := a = 27 ∨ (31 ≤ a ∧ a ≤ 42)
theorem mnF_congr {c c' : Nat → Int32} : ∀ {d : Nat}, (∀ j, j < d → c j = c' j) → mnF c d = mnF c' d
  | 0, _ => rfl
  | d + 1, h => by simp only [mnF]; rw [mnF_congr (d := d) (fun j hj => h j (by omega)), h d (by omega)]
theorem pf_st {ν : am_M} {N d dp pl : Nat} {wf p : Nat → Nat} (hd : d < 12) (hd1 : dp ≤ d) (hL : PL ν N wf (fun j => if j < dp then p j else pl + (j - dp)) d d) (hw : ∀ j, j ≤ d → wf ((fun j => if j < dp then p j else pl + (j - dp)) j) < 12) :
    PL (mm_fI (mm_sI ν 27 d (nI (pl + (d - dp)))) (30 + (d + 1)) (fun i => if i < N then mnI (mm_I (mm_sI ν 27 d (nI (pl + (d - dp)))) (30 + d) i) (mm_I (mm_sI ν 27 d (nI (pl + (d - dp)))) (4 + wf (pl + (d - dp))) i) else mm_I (mm_sI ν 27 d (nI (pl + (d - dp)))) (30 + (d + 1)) i)) N wf (fun j => if j < dp then p j else pl + (j - dp)) (d + 1) (d + 1) := by
  have ePd : (fun j => if j < dp then p j else pl + (j - dp)) d = pl + (d - dp) := if_neg (by omega)
  have hrow : ∀ j i, j ≤ d → mm_I (mm_fI (mm_sI ν 27 d (nI (pl + (d - dp)))) (30 + (d + 1)) (fun i => if i < N then mnI (mm_I (mm_sI ν 27 d (nI (pl + (d - dp)))) (30 + d) i) (mm_I (mm_sI ν 27 d (nI (pl + (d - dp)))) (4 + wf (pl + (d - dp))) i) else mm_I (mm_sI ν 27 d (nI (pl + (d - dp)))) (30 + (d + 1)) i)) (4 + wf ((fun j => if j < dp then p j else pl + (j - dp)) j)) i = mm_I ν (4 + wf ((fun j => if j < dp then p j else pl + (j - dp)) j)) i := fun j i hj => by
    have := hw j hj
    rw [mI_fIn (by omega), mI_ne (Or.inl (by omega))]
  refine ⟨fun j hj => ?_, fun e i he hi => ?_⟩
  · rw [mI_fIn (by omega), mI_sI]
    by_cases h : j = d
    · rw [if_pos ⟨rfl, h⟩, h, ePd]
    · rw [if_neg (fun z => h z.2)]
      exact hL.1 j (by omega)
  · rw [mnF_congr (fun j hj => hrow j i (by omega))]
    by_cases h : e = d + 1
    · subst h
      have hw2 := hw d (Nat.le_refl d)
      rw [ePd] at hw2
      rw [mI_fIs, if_pos hi, mI_ne (Or.inl (by omega)), mI_ne (Or.inl (by omega)), hL.2 d i (Nat.le_refl d) hi]
      show mnI _ _ = mnI _ (mm_I ν (4 + wf ((fun j => if j < dp then p j else pl + (j - dp)) d)) i)
      rw [ePd]
    · rw [mI_fIn (by omega), mI_ne (Or.inl (by omega))]
      exact hL.2 e i (by omega) hi
set_option maxRecDepth 100000 in
set_option maxHeartbeats 4000000 in
theorem ct_X1_placeFrom {E : am_E} {μ : am_M} (hb : Bs μ) {S N : Nat} (ht : Tb μ S N) {k m : Nat} (hk : mm_I μ 25 5 = nI k) (hm : mm_I μ 25 4 = nI m) (hkm : k ≤ m) (hm12 : m ≤ 12) {wf : Nat → Nat} (hwf : ∀ x, x < m → mm_I μ 26 x = nI (wf x) ∧ wf x < S) (dp pl : Nat) (p : Nat → Nat) (hdp : dp ≤ k) (hpl : pl + (k - dp) ≤ m) (hpm : ∀ j, j < dp → p j < m) (hP : PL μ N wf p dp dp) : am_Ct E yX1_placeFrom cX1_placeFrom 5 none rmX1_placeFrom [.ref 25, .ref 2, .int (nI dp), .int (nI pl)] μ (fun v μ' => v = none ∧ Sm Spr μ μ' ∧ PL μ' N wf (fun j => if j < dp then p j else pl + (j - dp)) k k) := by
  refine am_Ct.of (ls := [some (.ref 25), some (.ref 2), some (.int (nI dp)), some (.int (nI pl)), none]) (by decide) (Nat.le_of_ble_eq_true rfl) rfl (fun C fx hnm => ?_)
  have hS := ht.s
  have hN := ht.n
  refine am_iload_n fx dX1_placeFrom_0 rfl ?_
  refine am_istore fx dX1_placeFrom_1 (by decide) rfl ?_
  have lp3 : ∀ (mz : Nat) (d : Nat) (ν : am_M), k - d = mz → (dp ≤ d ∧ d ≤ k ∧ Sm Spr μ ν ∧ PL ν N wf (fun j => if j < dp then p j else pl + (j - dp)) d d) → am_W E C (am_MQ E C (fun v μ' => v = none ∧ Sm Spr μ μ' ∧ PL μ' N wf (fun j => if j < dp then p j else pl + (j - dp)) k k) (rmX1_placeFrom).cells (rmX1_placeFrom).slots) ν 0 0 3 [some (.ref 25), some (.ref 2), some (.int (nI dp)), some (.int (nI pl)), some (.int (nI d))] [] := by
    intro mz
    induction mz using Nat.strongRecOn with
    | ind mz ih =>
      intro d ν hz hI
      obtain ⟨hd1, hd2, hM, hL⟩ := hI
      have hb2 : Bs ν := hb.fr hM.1
      have hd : ∀ x k, ¬ Spr x → mm_I ν x k = mm_I μ x k := fun x k h => hM.2.1 x k h
      have ht2 : Tb ν S N := ht.keep (hd _ _ (by unfold Spr; omega)) (hd _ _ (by unfold Spr; omega))
      refine am_iload fx dX1_placeFrom_3 rfl ?_
      refine am_aload_n fx dX1_placeFrom_5 rfl ?_
      refine am_getI fx dX1_placeFrom_6 fkX1_30 (by decide) (by decide) rfl (so1 hb2) ((hd _ _ (by unfold Spr; omega)).trans hk) ?_
      refine am_icmp_ge fx 63 dX1_placeFrom_9 (by decide) (fun c9 => ?_) (fun c9 => ?_)
      · try simp (disch := omega) only [bz_0, Classical.not_not, Int32.not_le, Int32.not_lt, Nat.not_le, Nat.not_lt, nI_leI, nI_ltI, nI_eq, nI_le0, nI_lt0] at c9
        exact am_vret fx dX1_placeFrom_63 ⟨rfl, hM, by rw [← show d = k by omega]; exact hL⟩
      · try simp (disch := omega) only [bz_0, Classical.not_not, Int32.not_le, Int32.not_lt, Nat.not_le, Nat.not_lt, nI_leI, nI_ltI, nI_eq, nI_le0, nI_lt0] at c9
        refine am_iload_n fx dX1_placeFrom_12 rfl ?_
        refine am_iload fx dX1_placeFrom_13 rfl ?_
        refine am_iadd fx dX1_placeFrom_15 ?_
        refine am_topi (nI_add _ _) ?_
        refine am_iload_n fx dX1_placeFrom_16 rfl ?_
        refine am_isub fx dX1_placeFrom_17 ?_
        refine am_topi ((pk_sub (by omega)).trans (show nI (pl + d - dp) = nI (pl + (d - dp)) by rw [Nat.add_sub_assoc hd1])) ?_
        refine am_aload_n fx dX1_placeFrom_18 rfl ?_
        refine am_getI fx dX1_placeFrom_19 fkX1_26 (by decide) (by decide) rfl (so1 hb2) ((hd _ _ (by unfold Spr; omega)).trans hm) ?_
        refine am_icmp_ge fx 63 dX1_placeFrom_22 (by decide) (fun c22 => ?_) (fun c22 => ?_)
        · try simp (disch := omega) only [bz_0, Classical.not_not, Int32.not_le, Int32.not_lt, Nat.not_le, Nat.not_lt, nI_leI, nI_ltI, nI_eq, nI_le0, nI_lt0] at c22
          exact absurd c22 (by omega)
        · try simp (disch := omega) only [bz_0, Classical.not_not, Int32.not_le, Int32.not_lt, Nat.not_le, Nat.not_lt, nI_leI, nI_ltI, nI_eq, nI_le0, nI_lt0] at c22
          refine am_aload_n fx dX1_placeFrom_25 rfl ?_
          refine am_getR fx dX1_placeFrom_26 fkX1_15 (by decide) (by decide) rfl (so1 hb2) (rf1_1 hb2) ?_
          refine am_iload fx dX1_placeFrom_29 rfl ?_
          refine am_iload_n fx dX1_placeFrom_31 rfl ?_
          refine am_iload fx dX1_placeFrom_32 rfl ?_
          refine am_iadd fx dX1_placeFrom_34 ?_
          refine am_topi (nI_add _ _) ?_
          refine am_iload_n fx dX1_placeFrom_35 rfl ?_
          refine am_isub fx dX1_placeFrom_36 ?_
          refine am_topi ((pk_sub (by omega)).trans (show nI (pl + d - dp) = nI (pl + (d - dp)) by rw [Nat.add_sub_assoc hd1])) ?_
          refine am_iast  fx dX1_placeFrom_37 (sa1_1 hb2) rfl (by omega) (by decide) ?_
          have hb3 : Bs (mm_sI ν 27 d (nI (pl + (d - dp)))) := hb2.fr (Fr.sI _ _ _ _)
          have ht3 : Tb (mm_sI ν 27 d (nI (pl + (d - dp)))) S N := ht2.keep (mI_ne (Or.inl (by omega))) (mI_ne (Or.inl (by omega)))
          have hw := hwf (pl + (d - dp)) (by omega)
          refine am_aload_n fx dX1_placeFrom_38 rfl ?_
          refine am_aload_n fx dX1_placeFrom_39 rfl ?_
          refine am_iload fx dX1_placeFrom_40 rfl ?_
          refine am_aload_n fx dX1_placeFrom_42 rfl ?_
          refine am_getR fx dX1_placeFrom_43 fkX1_9 (by decide) (by decide) rfl (so1 hb3) (rf1_0 hb3) ?_
          refine am_aload_n fx dX1_placeFrom_46 rfl ?_
          refine am_getR fx dX1_placeFrom_47 fkX1_15 (by decide) (by decide) rfl (so1 hb3) (rf1_1 hb3) ?_
          refine am_iload fx dX1_placeFrom_50 rfl ?_
          refine am_iald  fx dX1_placeFrom_52 (sa1_1 hb3) rfl (by omega) (by decide) (mI_same _ _ _ _) ?_
          refine am_iald  fx dX1_placeFrom_53 (sa1_0 hb3) rfl (by omega) (by decide) ((mI_ne (Or.inl (by decide))).trans ((hd _ _ (by unfold Spr; omega)).trans hw.1)) ?_
          refine am_callV fx dX1_placeFrom_54 mkX1_79 (ct_X1_joinCosts hb3 ht3 d (wf (pl + (d - dp))) (by omega) hw.2) (so1 hb3) ⟨by decide, rfl⟩ rfl (Nat.le_of_ble_eq_true rfl) ⟨by decide, by decide⟩ ⟨Nat.le_of_ble_eq_true rfl, Nat.le_of_ble_eq_true rfl⟩ rfl ?_
          rintro _ _ ⟨rfl, rfl⟩
          first | refine am_iinc fx dX1_placeFrom_57 rfl (nI_inc _) (by decide) rfl ?_ | refine am_iinc fx dX1_placeFrom_57 rfl rfl (by decide) rfl ?_
          refine am_goto fx 3 dX1_placeFrom_60 (by decide) ?_
          exact ih (k - (d + 1)) (by omega) (d + 1) _ rfl ⟨by omega, by omega, hM.tr ((Sm.sI _ (Or.inl rfl)).tr (Sm.fI _ (Or.inr (by omega)))), pf_st (by omega) hd1 hL (fun j hj => by show wf (if j < dp then p j else pl + (j - dp)) < 12; split; (have := (hwf (p j) (hpm j (by assumption))).2; omega); (have := (hwf (pl + (j - dp)) (by omega)).2; omega))⟩
  exact lp3 _ dp μ rfl ⟨Nat.le_refl _, hdp, Sm.rf _ _, fun j hj => (hP.1 j hj).trans (by show nI (p j) = nI (if j < dp then p j else _); rw [if_pos hj]), fun d i h1 h2 => (hP.2 d i h1 h2).trans (mnF_congr (fun j hj => by show mm_I μ (4 + wf (p j)) i = mm_I μ (4 + wf (if j < dp then p j else _)) i; rw [if_pos (by omega)]))⟩
