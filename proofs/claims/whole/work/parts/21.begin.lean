/-! the order of a race -/
def stX (x : Int32) : Int32 := x * 1103515245 + 12345
def poX (x : Int32) (k : Nat) : Nat := (x.toBitVec.toNat / 65536) % k
def shuf : Nat → Int32 → (Nat → Int32) → (Nat → Int32)
  | 0, _, g => g
  | k + 1, x, g => shuf k (stX x) (upd (upd g (k + 1) (g (poX (stX x) (k + 2)))) (poX (stX x) (k + 2)) (g (k + 1)))
theorem kk_lt : ∀ kk, kk < 25 → (nI kk - 1 < 1 ↔ kk ≤ 1) := by decide
theorem ush16 (x : Int32) : (x.toUInt32 >>> ((nI 16).toUInt32 &&& Int32.toUInt32 31)).toInt32 = nI (x.toBitVec.toNat / 65536) := by
  have h := pk_ushr x (nI 16) 16 (by decide)
  have hx : x.toBitVec.toNat < 2 ^ 32 := x.toBitVec.isLt
  have h2 : (nI (x.toBitVec.toNat / 65536)).toBitVec.toNat = x.toBitVec.toNat / 65536 := pk_tn (by omega)
  exact Int32.toBitVec_inj.mp (BitVec.eq_of_toNat_eq (by rw [h, h2]))
theorem nI_m1p1 {n : Nat} (h : 0 < n) : nI n - 1 + 1 = nI n := by rw [nI_pred1 h, nI_1, Nat.sub_add_cancel h]
theorem nI_m1m1 {n : Nat} (h : 1 < n) : nI n - 1 + Int32.ofInt (-1) = nI (n - 1) - 1 := by rw [nI_pred1 (by omega), nI_dec (by omega), nI_pred1 (by omega)]
theorem ush_lt (x : Int32) : x.toBitVec.toNat / 65536 < 2 ^ 31 := by
  have hx : x.toBitVec.toNat < 2 ^ 32 := x.toBitVec.isLt
  omega
set_option maxRecDepth 100000 in
set_option maxHeartbeats 4000000 in
theorem ct_X2_begin {E : am_E} {μ : am_M} (hb : Bs μ) {q L : Nat} (hr : Rc μ q L) (seed : Int32) : am_Ct E yX2_begin cX2_begin 6 none rmX2_begin [.ref (q + 1), .int seed] μ (fun v μ' => v = none ∧ μ' = mm_sI (mm_fI μ (q + 19) (shuf (L - 1) seed (mm_I μ (q + 19)))) (q + 1) 14 (woF (mm_I μ (q + 1) 10) (mm_I μ q 4) (mm_I μ (q + 1) 12) (nI L) (mm_I μ q 5) (mm_I μ (q + 1) 13))) := by
  refine am_Ct.of (ls := [some (.ref (q + 1)), some (.int seed), none, none, none, none]) (by decide) (Nat.le_of_ble_eq_true rfl) rfl (fun C fx hnm => ?_)
  have hL := hr.l
  have hq := hr.qq
  refine am_iload_n fx dX2_begin_0 rfl ?_
  refine am_istore_n fx dX2_begin_1 (by decide) rfl ?_
  refine am_aload_n fx dX2_begin_2 rfl ?_
  refine am_getR fx dX2_begin_3 fkX2_60 (by decide) (by decide) rfl (so2 hr) (rf2_3 hr) ?_
  refine am_alen fx dX2_begin_6 (sa2_3 hr) (by decide) rfl ?_
  refine am_iconst (v := 1) fx dX2_begin_7 (by decide) ?_
  refine am_isub fx dX2_begin_8 ?_
  refine am_istore_n fx dX2_begin_9 (by decide) rfl ?_
  have lp10 : ∀ (mz : Nat) (kk : Nat) (x : Int32) (g : Nat → Int32), kk = mz → kk ≤ L → shuf (kk - 1) x g = shuf (L - 1) seed (mm_I μ (q + 19)) → am_W E C (am_MQ E C (fun v μ' => v = none ∧ μ' = mm_sI (mm_fI μ (q + 19) (shuf (L - 1) seed (mm_I μ (q + 19)))) (q + 1) 14 (woF (mm_I μ (q + 1) 10) (mm_I μ q 4) (mm_I μ (q + 1) 12) (nI L) (mm_I μ q 5) (mm_I μ (q + 1) 13))) (rmX2_begin).cells (rmX2_begin).slots) (mm_fI μ (q + 19) g) 0 0 10 [some (.ref (q + 1)), some (.int seed), some (.int x), some (.int (nI kk - 1)), none, none] [] := by
    intro mz
    induction mz using Nat.strongRecOn with
    | ind mz ih =>
      intro kk x g hz hk hg
      have hb2 : Bs (mm_fI μ (q + 19) g) := hb.fr (Fr.fI _ _ _)
      have hr2 : Rc (mm_fI μ (q + 19) g) q L := hr.fr (Fr.fI _ _ _)
      have eo : ∀ k, mm_I (mm_fI μ (q + 19) g) (q + 19) k = g k := fun k => mI_fIs _ _ _ _
      refine am_iload_n fx dX2_begin_10 rfl ?_
      refine am_iconst (v := 1) fx dX2_begin_11 (by decide) ?_
      refine am_icmp_lt fx 70 dX2_begin_12 (by decide) (fun c12 => ?_) (fun c12 => ?_)
      · skip
        have c12 := (kk_lt kk (by omega)).mp c12
        refine am_aload_n fx dX2_begin_70 rfl ?_
        refine am_aload_n fx dX2_begin_71 rfl ?_
        refine am_callV fx dX2_begin_72 mkX2_73 (ct_X2_whyOver hb2 hr2) (so2 hr2) ⟨by decide, rfl⟩ rfl (Nat.le_of_ble_eq_true rfl) ⟨by decide, by decide⟩ ⟨Nat.le_of_ble_eq_true rfl, Nat.le_of_ble_eq_true rfl⟩ rfl ?_
        rintro _ _ ⟨rfl, rfl⟩
        refine am_putI fx dX2_begin_75 fkX2_39 (by decide) (by decide) rfl rfl (so2 hr2) ?_
        exact am_vret fx dX2_begin_78 ⟨rfl, by rw [← hg, show shuf (kk - 1) x g = g by rcases (show kk = 0 ∨ kk = 1 by omega) with rfl | rfl <;> rfl, mI_fIn (by omega), mI_fIn (by omega), mI_fIn (by omega), mI_fIn (by omega), mI_fIn (by omega)]⟩
      · skip
        have c12 : 1 < kk := by
          rcases Nat.lt_or_ge 1 kk with z | z
          · exact z
          · exact absurd ((kk_lt kk (by omega)).mpr z) c12
        refine am_iload_n fx dX2_begin_15 rfl ?_
        refine am_ldc fx dX2_begin_16 kdX2_72 ?_
        refine am_imul fx dX2_begin_18 ?_
        refine am_sipush (v := (nI 12345)) fx dX2_begin_19 (by decide) ?_
        refine am_iadd fx dX2_begin_22 ?_
        refine am_istore_n fx dX2_begin_23 (by decide) rfl ?_
        refine am_iload_n fx dX2_begin_24 rfl ?_
        refine am_bipush (v := (nI 16)) fx dX2_begin_25 (by decide) ?_
        refine am_iushr fx dX2_begin_27 (ush16 _) ?_
        refine am_iload_n fx dX2_begin_28 rfl ?_
        refine am_iconst (v := 1) fx dX2_begin_29 (by decide) ?_
        refine am_iadd fx dX2_begin_30 ?_
        refine am_topi (nI_m1p1 (by omega)) ?_
        refine am_irem fx dX2_begin_31 (nI_ne0 (by omega) (by omega)) ?_
        refine am_topi (pk_rem (ush_lt _) (by omega) (by omega)) ?_
        have ho : poX (stX x) kk < kk := Nat.mod_lt _ (by omega)
        refine am_istore fx dX2_begin_32 (by decide) rfl ?_
        refine am_aload_n fx dX2_begin_34 rfl ?_
        refine am_getR fx dX2_begin_35 fkX2_60 (by decide) (by decide) rfl (so2 hr2) (rf2_3 hr2) ?_
        refine am_iload_n fx dX2_begin_38 rfl ?_
        refine am_iald  fx dX2_begin_39 (sa2_3 hr2) (nI_pred1 (by omega)) (by omega) (by omega) (eo _) ?_
        refine am_istore fx dX2_begin_40 (by decide) rfl ?_
        refine am_aload_n fx dX2_begin_42 rfl ?_
        refine am_getR fx dX2_begin_43 fkX2_60 (by decide) (by decide) rfl (so2 hr2) (rf2_3 hr2) ?_
        refine am_iload_n fx dX2_begin_46 rfl ?_
        refine am_aload_n fx dX2_begin_47 rfl ?_
        refine am_getR fx dX2_begin_48 fkX2_60 (by decide) (by decide) rfl (so2 hr2) (rf2_3 hr2) ?_
        refine am_iload fx dX2_begin_51 rfl ?_
        refine am_iald (j := (poX (stX x) kk)) fx dX2_begin_53 (sa2_3 hr2) rfl (by omega) (by omega) (eo _) ?_
        refine am_iast  fx dX2_begin_54 (sa2_3 hr2) (nI_pred1 (by omega)) (by omega) (by omega) ?_
        refine am_aload_n fx dX2_begin_55 rfl ?_
        refine am_getR fx dX2_begin_56 fkX2_60 (by decide) (by decide) rfl (so2 hr2) (rf2_3 hr2) ?_
        refine am_iload fx dX2_begin_59 rfl ?_
        refine am_iload fx dX2_begin_61 rfl ?_
        refine am_iast (j := (poX (stX x) kk)) fx dX2_begin_63 (sa2_3 hr2) rfl (by omega) (by omega) ?_
        have hg2 : shuf (kk - 1 - 1) (stX x) (upd (upd g (kk - 1) (g (poX (stX x) kk))) (poX (stX x) kk) (g (kk - 1))) = shuf (L - 1) seed (mm_I μ (q + 19)) := by
          rw [← hg]
          obtain ⟨k, rfl⟩ : ∃ k, kk = k + 2 := ⟨kk - 2, by omega⟩
          rfl
        refine am_iinc fx dX2_begin_64 rfl (nI_m1m1 (by omega)) (by decide) rfl ?_
        refine am_goto fx 10 dX2_begin_67 (by decide) ?_
        refine am_sub [true, true, true, true, false, false] rfl ?_
        exact am_mem (by rw [sI_fI, sI_fI]) (ih (kk - 1) (by omega) (kk - 1) _ _ rfl (by omega) hg2)
  refine am_sub [true, true, true, true, false, false] rfl ?_
  refine am_mem (fI_self μ (q + 19)).symm ?_
  exact lp10 _ L _ _ rfl (Nat.le_refl _) rfl
