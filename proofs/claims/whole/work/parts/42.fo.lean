/-! the model: its odds -/
def Smo (a : Nat) : Prop := a = 46 ∨ a = 53 ∨ a = 54 ∨ a = 55
theorem i32_subT {x y : Int32} (h1 : -2147483648 ≤ x.toInt - y.toInt) (h2 : x.toInt - y.toInt < 2147483648) : (x - y).toInt = x.toInt - y.toInt := by
  rw [Int32.toInt_sub]
  exact Int.bmod_eq_of_le (by omega) (by omega)
theorem cs_rng {x : Int32} (h : x = -1 ∨ (0 ≤ x ∧ x ≤ 2000000)) : -1 ≤ x.toInt ∧ x.toInt ≤ 2000000 := by
  rcases h with rfl | ⟨h1, h2⟩
  · decide
  · have a := Int32.le_iff_toInt_le.mp h1
    have b := Int32.le_iff_toInt_le.mp h2
    have e0 : (0 : Int32).toInt = 0 := rfl
    have e1 : (2000000 : Int32).toInt = 2000000 := rfl
    rw [e0] at a
    rw [e1] at b
    omega
theorem cs_sub {x y : Int32} (hx : x = -1 ∨ (0 ≤ x ∧ x ≤ 2000000)) (hy : y = -1 ∨ (0 ≤ y ∧ y ≤ 2000000)) : (x - y < 0 ↔ x < y) ∧ (x - y = 0 ↔ x = y) := by
  have a := cs_rng hx
  have b := cs_rng hy
  have e := i32_subT (x := x) (y := y) (by omega) (by omega)
  have e0 : (0 : Int32).toInt = 0 := rfl
  refine ⟨?_, ?_⟩
  · rw [Int32.lt_iff_toInt_lt, Int32.lt_iff_toInt_lt, e, e0]; omega
  · rw [← Int32.toInt_inj, ← Int32.toInt_inj, e, e0]; omega
theorem lsh1 : ∀ n, n < 25 → (1 : Int64) <<< ((nI n).toInt64 &&& 63) = lN (2 ^ n) := by decide
theorem sL_sL (μ : am_M) (a k : Nat) (v v' : Int64) : mm_sL (mm_sL μ a k v) a k v' = mm_sL μ a k v' := am_ext rfl (fun _ _ => rfl) (fun a' k' => by rw [mL_sL, mL_sL, mL_sL]; by_cases h : a' = a ∧ k' = k <;> simp [h]) rfl rfl
theorem sL_cm (μ : am_M) (v v' v'' : Int64) : mm_sL (mm_sL (mm_sL μ 46 21 v) 46 22 v') 46 21 v'' = mm_sL (mm_sL μ 46 21 v'') 46 22 v' := am_ext rfl (fun _ _ => rfl) (fun a' k' => by
  simp only [mL_sL]
  by_cases h : a' = 46 ∧ k' = 21
  · simp [h]
  · by_cases h2 : a' = 46 ∧ k' = 22 <;> simp [h, h2]) rfl rfl
theorem odd_pow {A : Nat} (h : A % 2 = 1) : ∀ e, Nat.gcd A (2 ^ e) = 1
  | 0 => by rw [Nat.pow_zero, Nat.gcd_one_right]
  | e + 1 => by
    have ih := odd_pow h e
    have h2 : Nat.gcd A 2 = 1 := by
      rw [Nat.gcd_comm, Nat.gcd_rec, h]
      exact Nat.gcd_one_left 2
    rw [Nat.pow_succ]
    exact Nat.Coprime.mul_right ih h2
/-- lowest terms, by halving -/
def Hv (U D A B : Nat) : Prop := A ≤ U ∧ (∃ e, B = 2 ^ e) ∧ B ≤ D ∧ A / Nat.gcd A B = U / Nat.gcd U D ∧ B / Nat.gcd A B = D / Nat.gcd U D
theorem Hv.half {U D A B : Nat} (h : Hv U D A B) (ha : A % 2 = 0) (hb : 1 < B) : Hv U D (A / 2) (B / 2) ∧ B / 2 < B := by
  obtain ⟨h1, ⟨e, rfl⟩, h3, h4, h5⟩ := h
  obtain ⟨k, rfl⟩ : ∃ k, e = k + 1 := by
    rcases e with _ | k
    · simp at hb
    · exact ⟨k, rfl⟩
  obtain ⟨a, rfl⟩ : ∃ a, A = 2 * a := ⟨A / 2, by omega⟩
  have hB : 2 ^ (k + 1) = 2 * 2 ^ k := by rw [Nat.pow_succ]; omega
  have hp : 0 < 2 ^ k := Nat.two_pow_pos k
  rw [hB] at h3 h4 h5 ⊢
  rw [Nat.gcd_mul_left, Nat.mul_div_mul_left _ _ (by decide)] at h4
  rw [Nat.gcd_mul_left, Nat.mul_div_mul_left _ _ (by decide)] at h5
  rw [Nat.mul_div_cancel_left _ (by decide), Nat.mul_div_cancel_left _ (by decide)]
  exact ⟨⟨by omega, ⟨k, rfl⟩, by omega, h4, h5⟩, by omega⟩
theorem Hv.odd {U D A B : Nat} (h : Hv U D A B) (hq : A % 2 = 1 ∨ B ≤ 1) : A = U / Nat.gcd U D ∧ B = D / Nat.gcd U D := by
  obtain ⟨h1, ⟨e, rfl⟩, h3, h4, h5⟩ := h
  have hg : Nat.gcd A (2 ^ e) = 1 := by
    rcases hq with hq | hq
    · exact odd_pow hq e
    · have hp : 0 < 2 ^ e := Nat.two_pow_pos e
      rw [show 2 ^ e = 1 by omega, Nat.gcd_one_right]
  rw [hg, Nat.div_one] at h4 h5
  exact ⟨h4, h5⟩
theorem fg_s {μ : am_M} {g h : Nat → Int32} {c : Nat} {x y : Int32} : mm_sI (mm_sI (mm_fI (mm_fI μ 53 g) 54 h) 53 c x) 54 c y = mm_fI (mm_fI μ 53 (upd g c x)) 54 (upd h c y) := am_ext rfl (fun a k => by
  simp only [mI_sI, mI_fI, upd]
  by_cases h1 : a = 54
  · subst h1
    by_cases h2 : k = c <;> simp [h2]
  · by_cases h3 : a = 53
    · subst h3
      by_cases h2 : k = c <;> simp [h2]
    · simp [h1, h3]) (fun _ _ => rfl) rfl rfl
theorem upNN_congr {kd : Int32} {g g' f f' : Nat → Int32} {n : Nat} (q : ∀ j, j < n → g j = g' j) (qf : ∀ j, j < n → f j = f' j) : upN kd g f n = upN kd g' f' n := upN_congr q qf
theorem asg_in2 {h h' : Nat → Int64} {w m N : Nat} (q : ∀ t, t < N → h t = h' t) : ∀ t, t < N → asg h w m t = asg h' w m t := fun t ht => by
  simp only [asg]
  rw [q t ht, q (t - w) (by omega)]
set_option maxRecDepth 100000 in
set_option maxHeartbeats 4000000 in
theorem ct_X7_findOdds {E : am_E} {μ : am_M} (hb : Bs μ) {En Rd pl : Nat} {od : Nat → Nat} {ou : Nat → Int32} (ho : Mo μ En Rd pl od ou) {S N : Nat} {cs : Nat → Nat → Int32} (hm : Mt μ S N cs) {kd : Int32} (h6 : mm_I μ 46 6 = kd) (hkd : kd = 0 ∨ kd = 1) (a b ra rb m : Nat) (ha : a < 12) (hb9 : b < 12) (hra : (if ou a = 0 then nI Rd else ou a) = nI ra) (hrb : (if ou b = 0 then nI Rd else ou b) = nI rb) (hral : ra ≤ pl) (hrbl : rb ≤ pl) (hmm : m = min ra rb) : am_Ct E yX7_findOdds cX7_findOdds 11 none rmX7_findOdds [.ref 46, .int (nI a), .int (nI b)] μ (fun v μ' => v = none ∧ Sm Smo μ μ' ∧ (∀ k, mm_I μ' 46 k = mm_I μ 46 k) ∧ mm_L μ' 46 21 = lN ((odUN kd (fun r => cs a (od r)) (fun r => cs b (od r)) m) / Nat.gcd (odUN kd (fun r => cs a (od r)) (fun r => cs b (od r)) m) (2 ^ odN (fun r => cs a (od r)) (fun r => cs b (od r)) m)) ∧ mm_L μ' 46 22 = lN ((2 ^ odN (fun r => cs a (od r)) (fun r => cs b (od r)) m) / Nat.gcd (odUN kd (fun r => cs a (od r)) (fun r => cs b (od r)) m) (2 ^ odN (fun r => cs a (od r)) (fun r => cs b (od r)) m))) := by
  refine am_Ct.of (ls := [some (.ref 46), some (.int (nI a)), some (.int (nI b)), none, none, none, none, none, none, none, none]) (by decide) (Nat.le_of_ble_eq_true rfl) rfl (fun C fx hnm => ?_)
  have hE := ho.e
  have hR := ho.r
  have hP := ho.p
  have hml : m ≤ pl := by omega
  have ct134 : ∀ (ν : am_M) (n : Nat), n = odN (fun r => cs a (od r)) (fun r => cs b (od r)) m → Fr μ ν → (∀ x y, ¬ Smo x → mm_I ν x y = mm_I μ x y) → (∀ x y, ¬ Smo x → mm_L ν x y = mm_L μ x y) → (∀ k, mm_I ν 46 k = mm_I μ 46 k) → (∀ j, j < n → mm_I ν 53 j = gpz (fun r => cs a (od r)) (fun r => cs b (od r)) m j ∧ mm_I ν 54 j = fpz (fun r => cs a (od r)) (fun r => cs b (od r)) m j) → am_W E C (am_MQ E C (fun v μ' => v = none ∧ Sm Smo μ μ' ∧ (∀ k, mm_I μ' 46 k = mm_I μ 46 k) ∧ mm_L μ' 46 21 = lN ((odUN kd (fun r => cs a (od r)) (fun r => cs b (od r)) m) / Nat.gcd (odUN kd (fun r => cs a (od r)) (fun r => cs b (od r)) m) (2 ^ odN (fun r => cs a (od r)) (fun r => cs b (od r)) m)) ∧ mm_L μ' 46 22 = lN ((2 ^ odN (fun r => cs a (od r)) (fun r => cs b (od r)) m) / Nat.gcd (odUN kd (fun r => cs a (od r)) (fun r => cs b (od r)) m) (2 ^ odN (fun r => cs a (od r)) (fun r => cs b (od r)) m))) (rmX7_findOdds).cells (rmX7_findOdds).slots) ν 0 0 134 [some (.ref 46), some (.int (nI a)), some (.int (nI b)), some (.int (nI n)), none, none, none, none, none, none, none] [] := by
    intro ν n hnn hfr hdI hdL h46 hgf
    have hbn : Bs ν := hb.fr hfr
    have h6n : mm_I ν 46 6 = kd := (h46 6).trans h6
    have h24 : n ≤ 24 := by have := odN_le (fun r => cs a (od r)) (fun r => cs b (od r)) m; omega
    refine am_iconst (v := (nI 0)) fx dX7_findOdds_134 (by decide) ?_
    refine am_istore fx dX7_findOdds_135 (by decide) rfl ?_
    refine am_iconst (v := (nI 0)) fx dX7_findOdds_137 (by decide) ?_
    refine am_istore fx dX7_findOdds_138 (by decide) rfl ?_
    refine am_iconst (v := 0) fx dX7_findOdds_140 (by decide) ?_
    refine am_istore fx dX7_findOdds_141 (by decide) rfl ?_
    have lp143 : ∀ (mz : Nat) (t : Nat), 1300 - t = mz → t ≤ 1300 → am_W E C (am_MQ E C (fun v μ' => v = none ∧ Sm Smo μ μ' ∧ (∀ k, mm_I μ' 46 k = mm_I μ 46 k) ∧ mm_L μ' 46 21 = lN ((odUN kd (fun r => cs a (od r)) (fun r => cs b (od r)) m) / Nat.gcd (odUN kd (fun r => cs a (od r)) (fun r => cs b (od r)) m) (2 ^ odN (fun r => cs a (od r)) (fun r => cs b (od r)) m)) ∧ mm_L μ' 46 22 = lN ((2 ^ odN (fun r => cs a (od r)) (fun r => cs b (od r)) m) / Nat.gcd (odUN kd (fun r => cs a (od r)) (fun r => cs b (od r)) m) (2 ^ odN (fun r => cs a (od r)) (fun r => cs b (od r)) m))) (rmX7_findOdds).cells (rmX7_findOdds).slots) (mm_fL ν 55 (flL 0 (mm_L ν 55) t)) 0 0 143 [some (.ref 46), some (.int (nI a)), some (.int (nI b)), some (.int (nI n)), none, none, some (.int (nI 0)), some (.int (nI 0)), some (.int (nI t)), none, none] [] := by
      intro mz
      induction mz using Nat.strongRecOn with
      | ind mz ih2 =>
        intro t hz ht
        refine am_iload fx dX7_findOdds_143 rfl ?_
        refine am_sipush (v := (nI 1300)) fx dX7_findOdds_145 (by decide) ?_
        refine am_icmp_ge fx 165 dX7_findOdds_148 (by decide) (fun c148 => ?_) (fun c148 => ?_)
        · try simp (disch := omega) only [bz_0, Classical.not_not, Int32.not_le, Int32.not_lt, Nat.not_le, Nat.not_lt, nI_leI, nI_ltI, nI_eq, nI_le0, nI_lt0] at c148
          refine am_aload_n fx dX7_findOdds_165 rfl ?_
          refine am_getR fx dX7_findOdds_166 fkX7_39 (by decide) (by decide) rfl (so7 hbn) (rf7_25 hbn) ?_
          refine am_iconst (v := 0) fx dX7_findOdds_169 (by decide) ?_
          refine am_lconst (v := 1) fx dX7_findOdds_170 (by decide) ?_
          refine am_last (j := 0) fx dX7_findOdds_171 (sa7_25 hbn) rfl (by omega) (by decide) ?_
          refine am_iconst (v := 0) fx dX7_findOdds_172 (by decide) ?_
          refine am_istore fx dX7_findOdds_173 (by decide) rfl ?_
          have lp175 : ∀ (mz : Nat) (k : Nat) (h : Nat → Int64), n - k = mz → k ≤ n → (∀ t, t < 1300 → h t = wy kd (mm_I ν 53) n k t) → am_W E C (am_MQ E C (fun v μ' => v = none ∧ Sm Smo μ μ' ∧ (∀ k, mm_I μ' 46 k = mm_I μ 46 k) ∧ mm_L μ' 46 21 = lN ((odUN kd (fun r => cs a (od r)) (fun r => cs b (od r)) m) / Nat.gcd (odUN kd (fun r => cs a (od r)) (fun r => cs b (od r)) m) (2 ^ odN (fun r => cs a (od r)) (fun r => cs b (od r)) m)) ∧ mm_L μ' 46 22 = lN ((2 ^ odN (fun r => cs a (od r)) (fun r => cs b (od r)) m) / Nat.gcd (odUN kd (fun r => cs a (od r)) (fun r => cs b (od r)) m) (2 ^ odN (fun r => cs a (od r)) (fun r => cs b (od r)) m))) (rmX7_findOdds).cells (rmX7_findOdds).slots) (mm_fL ν 55 h) 0 0 175 [some (.ref 46), some (.int (nI a)), some (.int (nI b)), some (.int (nI n)), none, none, some (.int (nI (mst kd (mm_I ν 53) n k))), some (.int (nI (rch kd (mm_I ν 53) (mm_I ν 54) n k))), some (.int (nI k)), none, none] [] := by
            intro mz
            induction mz using Nat.strongRecOn with
            | ind mz ih3 =>
              intro k h hz hk hh
              have hb3 : Bs (mm_fL ν 55 h) := hbn.fr (Fr.fL _ _ _)
              have hm1 := mst_top kd (mm_I ν 53) (show k ≤ n from hk) h24
              have hr1 := rch_le kd (mm_I ν 53) (mm_I ν 54) n k
              have h6b : mm_I (mm_fL ν 55 h) 46 6 = kd := h6n
              refine am_iload fx dX7_findOdds_175 rfl ?_
              refine am_iload_n fx dX7_findOdds_177 rfl ?_
              refine am_icmp_ge fx 348 dX7_findOdds_178 (by decide) (fun c178 => ?_) (fun c178 => ?_)
              · try simp (disch := omega) only [bz_0, Classical.not_not, Int32.not_le, Int32.not_lt, Nat.not_le, Nat.not_lt, nI_leI, nI_ltI, nI_eq, nI_le0, nI_lt0] at c178
                have en : n = k := by omega
                subst en
                refine am_aload_n fx dX7_findOdds_348 rfl ?_
                refine am_lconst (v := 0) fx dX7_findOdds_349 (by decide) ?_
                refine am_putL fx dX7_findOdds_350 fkX7_128 (by decide) (by decide) rfl rfl (so7 hb3) ?_
                refine am_mem (show _ = mm_sL (mm_fL ν 55 h) 46 21 (smL h (rch kd (mm_I ν 53) (mm_I ν 54) n n) 0) from rfl) ?_
                refine am_iload fx dX7_findOdds_353 rfl ?_
                refine am_istore fx dX7_findOdds_355 (by decide) rfl ?_
                have lp357 : ∀ (mz : Nat) (d : Nat), (mst kd (mm_I ν 53) n n) + 1 - ((rch kd (mm_I ν 53) (mm_I ν 54) n n) + d) = mz → (rch kd (mm_I ν 53) (mm_I ν 54) n n) + d ≤ (mst kd (mm_I ν 53) n n) + 1 → am_W E C (am_MQ E C (fun v μ' => v = none ∧ Sm Smo μ μ' ∧ (∀ k, mm_I μ' 46 k = mm_I μ 46 k) ∧ mm_L μ' 46 21 = lN ((odUN kd (fun r => cs a (od r)) (fun r => cs b (od r)) m) / Nat.gcd (odUN kd (fun r => cs a (od r)) (fun r => cs b (od r)) m) (2 ^ odN (fun r => cs a (od r)) (fun r => cs b (od r)) m)) ∧ mm_L μ' 46 22 = lN ((2 ^ odN (fun r => cs a (od r)) (fun r => cs b (od r)) m) / Nat.gcd (odUN kd (fun r => cs a (od r)) (fun r => cs b (od r)) m) (2 ^ odN (fun r => cs a (od r)) (fun r => cs b (od r)) m))) (rmX7_findOdds).cells (rmX7_findOdds).slots) (mm_sL (mm_fL ν 55 h) 46 21 (smL h (rch kd (mm_I ν 53) (mm_I ν 54) n n) d)) 0 0 357 [some (.ref 46), some (.int (nI a)), some (.int (nI b)), some (.int (nI n)), none, none, some (.int (nI (mst kd (mm_I ν 53) n n))), some (.int (nI (rch kd (mm_I ν 53) (mm_I ν 54) n n))), some (.int (nI ((rch kd (mm_I ν 53) (mm_I ν 54) n n) + d))), none, none] [] := by
                  intro mz
                  induction mz using Nat.strongRecOn with
                  | ind mz ih6 =>
                    intro d hz2 hd2
                    have hb5 : Bs (mm_sL (mm_fL ν 55 h) 46 21 (smL h (rch kd (mm_I ν 53) (mm_I ν 54) n n) d)) := hbn.fr ⟨rfl, rfl, rfl⟩
                    refine am_iload fx dX7_findOdds_357 rfl ?_
                    refine am_iload fx dX7_findOdds_359 rfl ?_
                    refine am_icmp_gt fx 386 dX7_findOdds_361 (by decide) (fun c361 => ?_) (fun c361 => ?_)
                    · try simp (disch := omega) only [bz_0, Classical.not_not, Int32.not_le, Int32.not_lt, Nat.not_le, Nat.not_lt, nI_leI, nI_ltI, nI_eq, nI_le0, nI_lt0] at c361
                      refine am_aload_n fx dX7_findOdds_386 rfl ?_
                      refine am_lconst (v := 1) fx dX7_findOdds_387 (by decide) ?_
                      refine am_iload_n fx dX7_findOdds_388 rfl ?_
                      refine am_lshl fx dX7_findOdds_389 (lsh1 n (by omega)) ?_
                      refine am_putL fx dX7_findOdds_390 fkX7_132 (by decide) (by decide) rfl rfl (so7 hb5) ?_
                      have hup : smL h (rch kd (mm_I ν 53) (mm_I ν 54) n n) d = lN (odUN kd (fun r => cs a (od r)) (fun r => cs b (od r)) m) := by
                        rw [← odU_N, odU, ← hnn, ← upN_congr (fun j hj => (hgf j hj).1) (fun j hj => (hgf j hj).2), upN, smL_congr (fun t ht => (hh _ (by omega)).symm), show d = (mst kd (mm_I ν 53) n n) + 1 - (rch kd (mm_I ν 53) (mm_I ν 54) n n) by omega]
                      have hdn : (2 : Nat) ^ n = (2 ^ odN (fun r => cs a (od r)) (fun r => cs b (od r)) m) := by rw [hnn]
                      have hU9 := odUN_le kd (fun r => cs a (od r)) (fun r => cs b (od r)) m
                      have hD9 := p2_lt (n := odN (fun r => cs a (od r)) (fun r => cs b (od r)) m) (by omega)
                      have lp393 : ∀ (mz : Nat) (A B : Nat), B = mz → Hv (odUN kd (fun r => cs a (od r)) (fun r => cs b (od r)) m) (2 ^ odN (fun r => cs a (od r)) (fun r => cs b (od r)) m) A B → am_W E C (am_MQ E C (fun v μ' => v = none ∧ Sm Smo μ μ' ∧ (∀ k, mm_I μ' 46 k = mm_I μ 46 k) ∧ mm_L μ' 46 21 = lN ((odUN kd (fun r => cs a (od r)) (fun r => cs b (od r)) m) / Nat.gcd (odUN kd (fun r => cs a (od r)) (fun r => cs b (od r)) m) (2 ^ odN (fun r => cs a (od r)) (fun r => cs b (od r)) m)) ∧ mm_L μ' 46 22 = lN ((2 ^ odN (fun r => cs a (od r)) (fun r => cs b (od r)) m) / Nat.gcd (odUN kd (fun r => cs a (od r)) (fun r => cs b (od r)) m) (2 ^ odN (fun r => cs a (od r)) (fun r => cs b (od r)) m))) (rmX7_findOdds).cells (rmX7_findOdds).slots) (mm_sL (mm_sL (mm_fL ν 55 h) 46 21 (lN A)) 46 22 (lN B)) 0 0 393 [some (.ref 46), none, none, none, none, none, none, none, none, none, none] [] := by
                        intro mz
                        induction mz using Nat.strongRecOn with
                        | ind mz ih7 =>
                          intro A B hz3 hH
                          have hb6 : Bs (mm_sL (mm_sL (mm_fL ν 55 h) 46 21 (lN A)) 46 22 (lN B)) := hbn.fr ⟨rfl, rfl, rfl⟩
                          have e21 : mm_L (mm_sL (mm_sL (mm_fL ν 55 h) 46 21 (lN A)) 46 22 (lN B)) 46 21 = lN A := (mL_ne (Or.inr (by decide))).trans (mL_same _ _ _ _)
                          have e22 : mm_L (mm_sL (mm_sL (mm_fL ν 55 h) 46 21 (lN A)) 46 22 (lN B)) 46 22 = lN B := mL_same _ _ _ _
                          have hAl : A < 2 ^ 62 := by have := hH.1; omega
                          have hBl : B < 2 ^ 62 := by have := hH.2.2.1; omega
                          refine am_aload_n fx dX7_findOdds_393 rfl ?_
                          refine am_getL fx dX7_findOdds_394 fkX7_128 (by decide) (by decide) rfl (so7 hb6) e21 ?_
                          refine am_ldc2 fx dX7_findOdds_397 kdX7_138 ?_
                          refine am_lrem fx dX7_findOdds_400 (by decide) ?_
                          refine am_topl (pk_lRem (b := 2) (by omega) (by decide) (by decide)) ?_
                          refine am_lconst (v := 0) fx dX7_findOdds_401 (by decide) ?_
                          refine am_lcmp fx dX7_findOdds_402 ?_
                          refine am_if_ne fx 442 dX7_findOdds_403 (by decide) (fun c403 => ?_) (fun c403 => ?_)
                          · skip
                            have c403 : A % 2 = 1 := by
                              rcases (show A % 2 = 0 ∨ A % 2 = 1 by omega) with z | z
                              · rw [z] at c403
                                exact absurd ((lg_eq0 _ _).mpr rfl) c403
                              · exact z
                            exact am_vret fx dX7_findOdds_442 (by
                              have h9 := hH.odd (Or.inl c403)
                              refine ⟨rfl, ⟨hfr.tr ⟨rfl, rfl, rfl⟩, fun x y hx => hdI x y hx, fun x y hx => ?_⟩, h46, by rw [e21, h9.1], by rw [e22, h9.2]⟩
                              rw [mL_ne (Or.inl (fun z => hx (Or.inl z))), mL_ne (Or.inl (fun z => hx (Or.inl z))), mL_fLn (fun z => hx (Or.inr (Or.inr (Or.inr z))))]
                              exact hdL x y hx)
                          · skip
                            have c403 : A % 2 = 0 := by
                              have h9 := (lg_eq0 _ _).mp c403
                              exact (pk_lEQ (b := 0) (by omega) (by decide)).mp h9
                            refine am_aload_n fx dX7_findOdds_406 rfl ?_
                            refine am_getL fx dX7_findOdds_407 fkX7_132 (by decide) (by decide) rfl (so7 hb6) e22 ?_
                            refine am_lconst (v := 1) fx dX7_findOdds_410 (by decide) ?_
                            refine am_lcmp fx dX7_findOdds_411 ?_
                            refine am_if_le fx 442 dX7_findOdds_412 (by decide) (fun c412 => ?_) (fun c412 => ?_)
                            · skip
                              have c412 : B ≤ 1 := by
                                have h9 := (lg_le0 _ _).mp c412
                                have h8 := pk_lLT (a := 1) (b := B) (by decide) (by omega)
                                rcases Nat.lt_or_ge 1 B with z | z
                                · exact absurd (h8.mpr z) h9
                                · exact z
                              exact am_vret fx dX7_findOdds_442 (by
                                have h9 := hH.odd (Or.inr c412)
                                refine ⟨rfl, ⟨hfr.tr ⟨rfl, rfl, rfl⟩, fun x y hx => hdI x y hx, fun x y hx => ?_⟩, h46, by rw [e21, h9.1], by rw [e22, h9.2]⟩
                                rw [mL_ne (Or.inl (fun z => hx (Or.inl z))), mL_ne (Or.inl (fun z => hx (Or.inl z))), mL_fLn (fun z => hx (Or.inr (Or.inr (Or.inr z))))]
                                exact hdL x y hx)
                            · skip
                              have c412 : 1 < B := by
                                rcases Nat.lt_or_ge 1 B with z | z
                                · exact z
                                · exact absurd ((lg_le0 _ _).mpr (fun q => absurd ((pk_lLT (a := 1) (b := B) (by decide) (by omega)).mp q) (by omega))) c412
                              refine am_aload_n fx dX7_findOdds_415 rfl ?_
                              refine am_dup_ref fx dX7_findOdds_416 ?_
                              refine am_getL fx dX7_findOdds_417 fkX7_128 (by decide) (by decide) rfl (so7 hb6) e21 ?_
                              refine am_ldc2 fx dX7_findOdds_420 kdX7_138 ?_
                              refine am_ldiv fx dX7_findOdds_423 (by decide) ?_
                              refine am_topl (pk_lDiv (b := 2) (by omega) (by decide) (by decide)) ?_
                              refine am_putL fx dX7_findOdds_424 fkX7_128 (by decide) (by decide) rfl rfl (so7 hb6) ?_
                              have hb7 : Bs (mm_sL (mm_sL (mm_sL (mm_fL ν 55 h) 46 21 (lN A)) 46 22 (lN B)) 46 21 (lN (A / 2))) := hbn.fr ⟨rfl, rfl, rfl⟩
                              refine am_aload_n fx dX7_findOdds_427 rfl ?_
                              refine am_dup_ref fx dX7_findOdds_428 ?_
                              refine am_getL fx dX7_findOdds_429 fkX7_132 (by decide) (by decide) rfl (so7 hb7) ((mL_ne (Or.inr (by decide))).trans e22) ?_
                              refine am_ldc2 fx dX7_findOdds_432 kdX7_138 ?_
                              refine am_ldiv fx dX7_findOdds_435 (by decide) ?_
                              refine am_topl (pk_lDiv (b := 2) (by omega) (by decide) (by decide)) ?_
                              refine am_putL fx dX7_findOdds_436 fkX7_132 (by decide) (by decide) rfl rfl (so7 hb7) ?_
                              refine am_goto fx 393 dX7_findOdds_439 (by decide) ?_
                              exact am_mem (by rw [sL_cm, sL_sL]) (ih7 (B / 2) (by rw [← hz3]; exact (hH.half c403 c412).2) (A / 2) (B / 2) rfl (hH.half c403 c412).1)
                      refine am_sub [true, false, false, false, false, false, false, false, false, false, false] rfl ?_
                      refine am_mem (show _ = mm_sL (mm_sL (mm_fL ν 55 h) 46 21 (lN (odUN kd (fun r => cs a (od r)) (fun r => cs b (od r)) m))) 46 22 (lN (2 ^ odN (fun r => cs a (od r)) (fun r => cs b (od r)) m)) by rw [hup, hdn]) ?_
                      exact lp393 _ (odUN kd (fun r => cs a (od r)) (fun r => cs b (od r)) m) (2 ^ odN (fun r => cs a (od r)) (fun r => cs b (od r)) m) rfl ⟨Nat.le_refl _, ⟨_, rfl⟩, Nat.le_refl _, rfl, rfl⟩
                    · try simp (disch := omega) only [bz_0, Classical.not_not, Int32.not_le, Int32.not_lt, Nat.not_le, Nat.not_lt, nI_leI, nI_ltI, nI_eq, nI_le0, nI_lt0] at c361
                      refine am_aload_n fx dX7_findOdds_364 rfl ?_
                      refine am_dup_ref fx dX7_findOdds_365 ?_
                      refine am_getL fx dX7_findOdds_366 fkX7_128 (by decide) (by decide) rfl (so7 hb5) (mL_same _ _ _ _) ?_
                      refine am_aload_n fx dX7_findOdds_369 rfl ?_
                      refine am_getR fx dX7_findOdds_370 fkX7_39 (by decide) (by decide) rfl (so7 hb5) (rf7_25 hb5) ?_
                      refine am_iload fx dX7_findOdds_373 rfl ?_
                      refine am_lald (j := ((rch kd (mm_I ν 53) (mm_I ν 54) n n) + d)) fx dX7_findOdds_375 (sa7_25 hb5) rfl (by omega) (by decide) (show _ = h ((rch kd (mm_I ν 53) (mm_I ν 54) n n) + d) from (mL_ne (Or.inl (by decide))).trans (mL_fLs _ _ _ _)) ?_
                      refine am_ladd fx dX7_findOdds_376 ?_
                      refine am_putL fx dX7_findOdds_377 fkX7_128 (by decide) (by decide) rfl rfl (so7 hb5) ?_
                      first | refine am_iinc fx dX7_findOdds_380 rfl (nI_inc _) (by decide) rfl ?_ | refine am_iinc fx dX7_findOdds_380 rfl rfl (by decide) rfl ?_
                      refine am_goto fx 357 dX7_findOdds_383 (by decide) ?_
                      exact am_mem (by rw [sL_sL]; rfl) (ih6 ((mst kd (mm_I ν 53) n n) + 1 - ((rch kd (mm_I ν 53) (mm_I ν 54) n n) + (d + 1))) (by omega) (d + 1) rfl (by omega))
                refine am_sub [true, true, true, true, false, false, true, true, true, false, false] rfl ?_
                exact lp357 _ 0 rfl (by omega)
              · try simp (disch := omega) only [bz_0, Classical.not_not, Int32.not_le, Int32.not_lt, Nat.not_le, Nat.not_lt, nI_leI, nI_ltI, nI_eq, nI_le0, nI_lt0] at c178
                have ct277 : am_W E C (am_MQ E C (fun v μ' => v = none ∧ Sm Smo μ μ' ∧ (∀ k, mm_I μ' 46 k = mm_I μ 46 k) ∧ mm_L μ' 46 21 = lN ((odUN kd (fun r => cs a (od r)) (fun r => cs b (od r)) m) / Nat.gcd (odUN kd (fun r => cs a (od r)) (fun r => cs b (od r)) m) (2 ^ odN (fun r => cs a (od r)) (fun r => cs b (od r)) m)) ∧ mm_L μ' 46 22 = lN ((2 ^ odN (fun r => cs a (od r)) (fun r => cs b (od r)) m) / Nat.gcd (odUN kd (fun r => cs a (od r)) (fun r => cs b (od r)) m) (2 ^ odN (fun r => cs a (od r)) (fun r => cs b (od r)) m))) (rmX7_findOdds).cells (rmX7_findOdds).slots) (mm_fL ν 55 h) 0 0 277 [some (.ref 46), some (.int (nI a)), some (.int (nI b)), some (.int (nI n)), none, none, some (.int (nI (mst kd (mm_I ν 53) n k))), some (.int (nI (rch kd (mm_I ν 53) (mm_I ν 54) n k))), some (.int (nI k)), some (.int (nI (odw kd (mm_I ν 53) n k))), none] [] := by
                  refine am_iload fx dX7_findOdds_277 rfl ?_
                  refine am_aload_n fx dX7_findOdds_279 rfl ?_
                  refine am_getR fx dX7_findOdds_280 fkX7_36 (by decide) (by decide) rfl (so7 hb3) (rf7_24 hb3) ?_
                  refine am_iload fx dX7_findOdds_283 rfl ?_
                  refine am_zald (j := k) fx dX7_findOdds_285 (sa7_24 hb3) rfl (by omega) (by decide) (show mm_I (mm_fL ν 55 h) 54 k = mm_I ν 54 k from rfl) ?_
                  refine am_if_eq fx 294 dX7_findOdds_286 (by decide) (fun c286 => ?_) (fun c286 => ?_)
                  · skip
                    refine am_iconst (v := 0) fx dX7_findOdds_294 (by decide) ?_
                    refine am_iadd fx dX7_findOdds_295 ?_
                    refine am_topi (show _ = nI (rch kd (mm_I ν 53) (mm_I ν 54) n (k + 1)) by rw [rch, if_pos c286]; exact nI_add _ 0) ?_
                    refine am_istore fx dX7_findOdds_296 (by decide) rfl ?_
                    refine am_iload fx dX7_findOdds_298 rfl ?_
                    refine am_iload fx dX7_findOdds_300 rfl ?_
                    refine am_iadd fx dX7_findOdds_302 ?_
                    refine am_topi (show _ = nI (mst kd (mm_I ν 53) n (k + 1)) from nI_add _ _) ?_
                    have hm2 := mst_top kd (mm_I ν 53) (show k + 1 ≤ n by omega) h24
                    have hm3 : (mst kd (mm_I ν 53) n k) + (odw kd (mm_I ν 53) n k) = (mst kd (mm_I ν 53) n (k + 1)) := rfl
                    have hp1 := odw_pos kd (mm_I ν 53) n k
                    refine am_istore fx dX7_findOdds_303 (by decide) rfl ?_
                    refine am_iload fx dX7_findOdds_305 rfl ?_
                    refine am_istore fx dX7_findOdds_307 (by decide) rfl ?_
                    have lp309 : ∀ (mz : Nat) (t : Nat), t = mz → (odw kd (mm_I ν 53) n k) ≤ t + 1 → t ≤ (mst kd (mm_I ν 53) n (k + 1)) → am_W E C (am_MQ E C (fun v μ' => v = none ∧ Sm Smo μ μ' ∧ (∀ k, mm_I μ' 46 k = mm_I μ 46 k) ∧ mm_L μ' 46 21 = lN ((odUN kd (fun r => cs a (od r)) (fun r => cs b (od r)) m) / Nat.gcd (odUN kd (fun r => cs a (od r)) (fun r => cs b (od r)) m) (2 ^ odN (fun r => cs a (od r)) (fun r => cs b (od r)) m)) ∧ mm_L μ' 46 22 = lN ((2 ^ odN (fun r => cs a (od r)) (fun r => cs b (od r)) m) / Nat.gcd (odUN kd (fun r => cs a (od r)) (fun r => cs b (od r)) m) (2 ^ odN (fun r => cs a (od r)) (fun r => cs b (od r)) m))) (rmX7_findOdds).cells (rmX7_findOdds).slots) (mm_fL ν 55 (asgP h (odw kd (mm_I ν 53) n k) (mst kd (mm_I ν 53) n (k + 1)) t)) 0 0 309 [some (.ref 46), some (.int (nI a)), some (.int (nI b)), some (.int (nI n)), none, none, some (.int (nI (mst kd (mm_I ν 53) n (k + 1)))), some (.int (nI (rch kd (mm_I ν 53) (mm_I ν 54) n (k + 1)))), some (.int (nI k)), some (.int (nI (odw kd (mm_I ν 53) n k))), some (.int (nI t))] [] := by
                      intro mz
                      induction mz using Nat.strongRecOn with
                      | ind mz ih5 =>
                        intro t hz2 hwt ht
                        have hb4 : Bs (mm_fL ν 55 (asgP h (odw kd (mm_I ν 53) n k) (mst kd (mm_I ν 53) n (k + 1)) t)) := hbn.fr (Fr.fL _ _ _)
                        have e55 : ∀ x, mm_L (mm_fL ν 55 (asgP h (odw kd (mm_I ν 53) n k) (mst kd (mm_I ν 53) n (k + 1)) t)) 55 x = asgP h (odw kd (mm_I ν 53) n k) (mst kd (mm_I ν 53) n (k + 1)) t x := fun x => mL_fLs _ _ _ _
                        refine am_iload fx dX7_findOdds_309 rfl ?_
                        refine am_iload fx dX7_findOdds_311 rfl ?_
                        refine am_icmp_lt fx 342 dX7_findOdds_313 (by decide) (fun c313 => ?_) (fun c313 => ?_)
                        · try simp (disch := omega) only [bz_0, Classical.not_not, Int32.not_le, Int32.not_lt, Nat.not_le, Nat.not_lt, nI_leI, nI_ltI, nI_eq, nI_le0, nI_lt0] at c313
                          first | refine am_iinc fx dX7_findOdds_342 rfl (nI_inc _) (by decide) rfl ?_ | refine am_iinc fx dX7_findOdds_342 rfl rfl (by decide) rfl ?_
                          refine am_goto fx 175 dX7_findOdds_345 (by decide) ?_
                          refine am_sub [true, true, true, true, false, false, true, true, true, false, false] rfl ?_
                          exact am_mem (by rw [asgP_e h (odw kd (mm_I ν 53) n k) (mst kd (mm_I ν 53) n (k + 1)) t (by omega)]) (ih3 (n - (k + 1)) (by omega) (k + 1) _ rfl (by omega) (fun t ht => asg_in2 hh t ht))
                        · try simp (disch := omega) only [bz_0, Classical.not_not, Int32.not_le, Int32.not_lt, Nat.not_le, Nat.not_lt, nI_leI, nI_ltI, nI_eq, nI_le0, nI_lt0] at c313
                          refine am_aload_n fx dX7_findOdds_316 rfl ?_
                          refine am_getR fx dX7_findOdds_317 fkX7_39 (by decide) (by decide) rfl (so7 hb4) (rf7_25 hb4) ?_
                          refine am_iload fx dX7_findOdds_320 rfl ?_
                          refine am_dup2 fx dX7_findOdds_322 ?_
                          refine am_lald (j := t) fx dX7_findOdds_323 (sa7_25 hb4) rfl (by omega) (by decide) (e55 t) ?_
                          refine am_aload_n fx dX7_findOdds_324 rfl ?_
                          refine am_getR fx dX7_findOdds_325 fkX7_39 (by decide) (by decide) rfl (so7 hb4) (rf7_25 hb4) ?_
                          refine am_iload fx dX7_findOdds_328 rfl ?_
                          refine am_iload fx dX7_findOdds_330 rfl ?_
                          refine am_isub fx dX7_findOdds_332 ?_
                          refine am_topi (pk_sub (by omega)) ?_
                          refine am_lald (j := (t - (odw kd (mm_I ν 53) n k))) fx dX7_findOdds_333 (sa7_25 hb4) rfl (by omega) (by decide) (e55 _) ?_
                          refine am_ladd fx dX7_findOdds_334 ?_
                          refine am_last (j := t) fx dX7_findOdds_335 (sa7_25 hb4) rfl (by omega) (by decide) ?_
                          first | refine am_iinc fx dX7_findOdds_336 rfl (nI_dec (by omega)) (by decide) rfl ?_ | refine am_iinc fx dX7_findOdds_336 rfl rfl (by decide) rfl ?_
                          refine am_goto fx 309 dX7_findOdds_339 (by decide) ?_
                          exact am_mem (by rw [sL_fL, asgP_s h (odw kd (mm_I ν 53) n k) (mst kd (mm_I ν 53) n (k + 1)) t hp1 (by omega) (by omega)]) (ih5 (t - 1) (by omega) (t - 1) rfl (by omega) (by omega))
                    refine am_mem (show (mm_fL ν 55 h) = mm_fL ν 55 (asgP h (odw kd (mm_I ν 53) n k) (mst kd (mm_I ν 53) n (k + 1)) (mst kd (mm_I ν 53) n (k + 1))) by rw [asgP_0]) ?_
                    exact lp309 _ (mst kd (mm_I ν 53) n (k + 1)) rfl (by omega) (Nat.le_refl _)
                  · skip
                    refine am_iload fx dX7_findOdds_289 rfl ?_
                    refine am_goto fx 295 dX7_findOdds_291 (by decide) ?_
                    refine am_iadd fx dX7_findOdds_295 ?_
                    refine am_topi (show _ = nI (rch kd (mm_I ν 53) (mm_I ν 54) n (k + 1)) by rw [rch, if_neg c286]; exact nI_add _ _) ?_
                    refine am_istore fx dX7_findOdds_296 (by decide) rfl ?_
                    refine am_iload fx dX7_findOdds_298 rfl ?_
                    refine am_iload fx dX7_findOdds_300 rfl ?_
                    refine am_iadd fx dX7_findOdds_302 ?_
                    refine am_topi (show _ = nI (mst kd (mm_I ν 53) n (k + 1)) from nI_add _ _) ?_
                    have hm2 := mst_top kd (mm_I ν 53) (show k + 1 ≤ n by omega) h24
                    have hm3 : (mst kd (mm_I ν 53) n k) + (odw kd (mm_I ν 53) n k) = (mst kd (mm_I ν 53) n (k + 1)) := rfl
                    have hp1 := odw_pos kd (mm_I ν 53) n k
                    refine am_istore fx dX7_findOdds_303 (by decide) rfl ?_
                    refine am_iload fx dX7_findOdds_305 rfl ?_
                    refine am_istore fx dX7_findOdds_307 (by decide) rfl ?_
                    have lp309 : ∀ (mz : Nat) (t : Nat), t = mz → (odw kd (mm_I ν 53) n k) ≤ t + 1 → t ≤ (mst kd (mm_I ν 53) n (k + 1)) → am_W E C (am_MQ E C (fun v μ' => v = none ∧ Sm Smo μ μ' ∧ (∀ k, mm_I μ' 46 k = mm_I μ 46 k) ∧ mm_L μ' 46 21 = lN ((odUN kd (fun r => cs a (od r)) (fun r => cs b (od r)) m) / Nat.gcd (odUN kd (fun r => cs a (od r)) (fun r => cs b (od r)) m) (2 ^ odN (fun r => cs a (od r)) (fun r => cs b (od r)) m)) ∧ mm_L μ' 46 22 = lN ((2 ^ odN (fun r => cs a (od r)) (fun r => cs b (od r)) m) / Nat.gcd (odUN kd (fun r => cs a (od r)) (fun r => cs b (od r)) m) (2 ^ odN (fun r => cs a (od r)) (fun r => cs b (od r)) m))) (rmX7_findOdds).cells (rmX7_findOdds).slots) (mm_fL ν 55 (asgP h (odw kd (mm_I ν 53) n k) (mst kd (mm_I ν 53) n (k + 1)) t)) 0 0 309 [some (.ref 46), some (.int (nI a)), some (.int (nI b)), some (.int (nI n)), none, none, some (.int (nI (mst kd (mm_I ν 53) n (k + 1)))), some (.int (nI (rch kd (mm_I ν 53) (mm_I ν 54) n (k + 1)))), some (.int (nI k)), some (.int (nI (odw kd (mm_I ν 53) n k))), some (.int (nI t))] [] := by
                      intro mz
                      induction mz using Nat.strongRecOn with
                      | ind mz ih5 =>
                        intro t hz2 hwt ht
                        have hb4 : Bs (mm_fL ν 55 (asgP h (odw kd (mm_I ν 53) n k) (mst kd (mm_I ν 53) n (k + 1)) t)) := hbn.fr (Fr.fL _ _ _)
                        have e55 : ∀ x, mm_L (mm_fL ν 55 (asgP h (odw kd (mm_I ν 53) n k) (mst kd (mm_I ν 53) n (k + 1)) t)) 55 x = asgP h (odw kd (mm_I ν 53) n k) (mst kd (mm_I ν 53) n (k + 1)) t x := fun x => mL_fLs _ _ _ _
                        refine am_iload fx dX7_findOdds_309 rfl ?_
                        refine am_iload fx dX7_findOdds_311 rfl ?_
                        refine am_icmp_lt fx 342 dX7_findOdds_313 (by decide) (fun c313 => ?_) (fun c313 => ?_)
                        · try simp (disch := omega) only [bz_0, Classical.not_not, Int32.not_le, Int32.not_lt, Nat.not_le, Nat.not_lt, nI_leI, nI_ltI, nI_eq, nI_le0, nI_lt0] at c313
                          first | refine am_iinc fx dX7_findOdds_342 rfl (nI_inc _) (by decide) rfl ?_ | refine am_iinc fx dX7_findOdds_342 rfl rfl (by decide) rfl ?_
                          refine am_goto fx 175 dX7_findOdds_345 (by decide) ?_
                          refine am_sub [true, true, true, true, false, false, true, true, true, false, false] rfl ?_
                          exact am_mem (by rw [asgP_e h (odw kd (mm_I ν 53) n k) (mst kd (mm_I ν 53) n (k + 1)) t (by omega)]) (ih3 (n - (k + 1)) (by omega) (k + 1) _ rfl (by omega) (fun t ht => asg_in2 hh t ht))
                        · try simp (disch := omega) only [bz_0, Classical.not_not, Int32.not_le, Int32.not_lt, Nat.not_le, Nat.not_lt, nI_leI, nI_ltI, nI_eq, nI_le0, nI_lt0] at c313
                          refine am_aload_n fx dX7_findOdds_316 rfl ?_
                          refine am_getR fx dX7_findOdds_317 fkX7_39 (by decide) (by decide) rfl (so7 hb4) (rf7_25 hb4) ?_
                          refine am_iload fx dX7_findOdds_320 rfl ?_
                          refine am_dup2 fx dX7_findOdds_322 ?_
                          refine am_lald (j := t) fx dX7_findOdds_323 (sa7_25 hb4) rfl (by omega) (by decide) (e55 t) ?_
                          refine am_aload_n fx dX7_findOdds_324 rfl ?_
                          refine am_getR fx dX7_findOdds_325 fkX7_39 (by decide) (by decide) rfl (so7 hb4) (rf7_25 hb4) ?_
                          refine am_iload fx dX7_findOdds_328 rfl ?_
                          refine am_iload fx dX7_findOdds_330 rfl ?_
                          refine am_isub fx dX7_findOdds_332 ?_
                          refine am_topi (pk_sub (by omega)) ?_
                          refine am_lald (j := (t - (odw kd (mm_I ν 53) n k))) fx dX7_findOdds_333 (sa7_25 hb4) rfl (by omega) (by decide) (e55 _) ?_
                          refine am_ladd fx dX7_findOdds_334 ?_
                          refine am_last (j := t) fx dX7_findOdds_335 (sa7_25 hb4) rfl (by omega) (by decide) ?_
                          first | refine am_iinc fx dX7_findOdds_336 rfl (nI_dec (by omega)) (by decide) rfl ?_ | refine am_iinc fx dX7_findOdds_336 rfl rfl (by decide) rfl ?_
                          refine am_goto fx 309 dX7_findOdds_339 (by decide) ?_
                          exact am_mem (by rw [sL_fL, asgP_s h (odw kd (mm_I ν 53) n k) (mst kd (mm_I ν 53) n (k + 1)) t hp1 (by omega) (by omega)]) (ih5 (t - 1) (by omega) (t - 1) rfl (by omega) (by omega))
                    refine am_mem (show (mm_fL ν 55 h) = mm_fL ν 55 (asgP h (odw kd (mm_I ν 53) n k) (mst kd (mm_I ν 53) n (k + 1)) (mst kd (mm_I ν 53) n (k + 1))) by rw [asgP_0]) ?_
                    exact lp309 _ (mst kd (mm_I ν 53) n (k + 1)) rfl (by omega) (Nat.le_refl _)
                refine am_aload_n fx dX7_findOdds_181 rfl ?_
                refine am_getI fx dX7_findOdds_182 fkX7_20 (by decide) (by decide) rfl (so7 hb3) h6b ?_
                refine am_if_ne fx 192 dX7_findOdds_185 (by decide) (fun c185 => ?_) (fun c185 => ?_)
                · skip
                  refine am_iconst (v := 2) fx dX7_findOdds_192 (by decide) ?_
                  refine am_topi (show _ = nI (if kd = 0 then 1 else 2 + wts (mm_I ν 53) k 0) from by rw [if_neg c185]; rfl) ?_
                  refine am_istore fx dX7_findOdds_193 (by decide) rfl ?_
                  refine am_iconst (v := 0) fx dX7_findOdds_195 (by decide) ?_
                  refine am_istore fx dX7_findOdds_196 (by decide) rfl ?_
                  have lp198 : ∀ (mz : Nat) (j : Nat), n - j = mz → j ≤ n → (kd = 0 → j = 0) → am_W E C (am_MQ E C (fun v μ' => v = none ∧ Sm Smo μ μ' ∧ (∀ k, mm_I μ' 46 k = mm_I μ 46 k) ∧ mm_L μ' 46 21 = lN ((odUN kd (fun r => cs a (od r)) (fun r => cs b (od r)) m) / Nat.gcd (odUN kd (fun r => cs a (od r)) (fun r => cs b (od r)) m) (2 ^ odN (fun r => cs a (od r)) (fun r => cs b (od r)) m)) ∧ mm_L μ' 46 22 = lN ((2 ^ odN (fun r => cs a (od r)) (fun r => cs b (od r)) m) / Nat.gcd (odUN kd (fun r => cs a (od r)) (fun r => cs b (od r)) m) (2 ^ odN (fun r => cs a (od r)) (fun r => cs b (od r)) m))) (rmX7_findOdds).cells (rmX7_findOdds).slots) (mm_fL ν 55 h) 0 0 198 [some (.ref 46), some (.int (nI a)), some (.int (nI b)), some (.int (nI n)), none, none, some (.int (nI (mst kd (mm_I ν 53) n k))), some (.int (nI (rch kd (mm_I ν 53) (mm_I ν 54) n k))), some (.int (nI k)), some (.int (nI (if kd = 0 then 1 else 2 + wts (mm_I ν 53) k j))), some (.int (nI j))] [] := by
                    intro mz
                    induction mz using Nat.strongRecOn with
                    | ind mz ih4 =>
                      intro j hz2 hj hj0
                      refine am_iload fx dX7_findOdds_198 rfl ?_
                      refine am_iload_n fx dX7_findOdds_200 rfl ?_
                      refine am_icmp_ge fx 277 dX7_findOdds_201 (by decide) (fun c201 => ?_) (fun c201 => ?_)
                      · try simp (disch := omega) only [bz_0, Classical.not_not, Int32.not_le, Int32.not_lt, Nat.not_le, Nat.not_lt, nI_leI, nI_ltI, nI_eq, nI_le0, nI_lt0] at c201
                        rw [show (if kd = 0 then 1 else 2 + wts (mm_I ν 53) k j) = (odw kd (mm_I ν 53) n k) by rw [show j = n by omega]; unfold odw wtN; rfl]
                        refine am_sub [true, true, true, true, false, false, true, true, true, true, false] rfl ?_
                        exact ct277
                      · try simp (disch := omega) only [bz_0, Classical.not_not, Int32.not_le, Int32.not_lt, Nat.not_le, Nat.not_lt, nI_leI, nI_ltI, nI_eq, nI_le0, nI_lt0] at c201
                        refine am_aload_n fx dX7_findOdds_204 rfl ?_
                        refine am_getI fx dX7_findOdds_205 fkX7_20 (by decide) (by decide) rfl (so7 hb3) h6b ?_
                        refine am_iconst (v := 1) fx dX7_findOdds_208 (by decide) ?_
                        refine am_icmp_ne fx 277 dX7_findOdds_209 (by decide) (fun c209 => ?_) (fun c209 => ?_)
                        · skip
                          rw [show (if kd = 0 then 1 else 2 + wts (mm_I ν 53) k j) = (odw kd (mm_I ν 53) n k) by unfold odw; rw [if_pos (hkd.resolve_right c209), if_pos (hkd.resolve_right c209)]]
                          refine am_sub [true, true, true, true, false, false, true, true, true, true, false] rfl ?_
                          exact ct277
                        · skip
                          have hk1 : ¬ kd = 0 := by rw [c209]; decide
                          refine am_iload fx dX7_findOdds_212 rfl ?_
                          refine am_iload fx dX7_findOdds_214 rfl ?_
                          refine am_iload fx dX7_findOdds_216 rfl ?_
                          refine am_icmp_ne fx 225 dX7_findOdds_218 (by decide) (fun c218 => ?_) (fun c218 => ?_)
                          · try simp (disch := omega) only [bz_0, Classical.not_not, Int32.not_le, Int32.not_lt, Nat.not_le, Nat.not_lt, nI_leI, nI_ltI, nI_eq, nI_le0, nI_lt0] at c218
                            refine am_aload_n fx dX7_findOdds_225 rfl ?_
                            refine am_getR fx dX7_findOdds_226 fkX7_33 (by decide) (by decide) rfl (so7 hb3) (rf7_23 hb3) ?_
                            refine am_iload fx dX7_findOdds_229 rfl ?_
                            refine am_iald (j := j) fx dX7_findOdds_231 (sa7_23 hb3) rfl (by omega) (by decide) (show mm_I (mm_fL ν 55 h) 53 j = mm_I ν 53 j from rfl) ?_
                            refine am_aload_n fx dX7_findOdds_232 rfl ?_
                            refine am_getR fx dX7_findOdds_233 fkX7_33 (by decide) (by decide) rfl (so7 hb3) (rf7_23 hb3) ?_
                            refine am_iload fx dX7_findOdds_236 rfl ?_
                            refine am_iald (j := k) fx dX7_findOdds_238 (sa7_23 hb3) rfl (by omega) (by decide) (show mm_I (mm_fL ν 55 h) 53 k = mm_I ν 53 k from rfl) ?_
                            refine am_icmp_ge fx 246 dX7_findOdds_239 (by decide) (fun c239 => ?_) (fun c239 => ?_)
                            · skip
                              refine am_aload_n fx dX7_findOdds_246 rfl ?_
                              refine am_getR fx dX7_findOdds_247 fkX7_33 (by decide) (by decide) rfl (so7 hb3) (rf7_23 hb3) ?_
                              refine am_iload fx dX7_findOdds_250 rfl ?_
                              refine am_iald (j := j) fx dX7_findOdds_252 (sa7_23 hb3) rfl (by omega) (by decide) (show mm_I (mm_fL ν 55 h) 53 j = mm_I ν 53 j from rfl) ?_
                              refine am_aload_n fx dX7_findOdds_253 rfl ?_
                              refine am_getR fx dX7_findOdds_254 fkX7_33 (by decide) (by decide) rfl (so7 hb3) (rf7_23 hb3) ?_
                              refine am_iload fx dX7_findOdds_257 rfl ?_
                              refine am_iald (j := k) fx dX7_findOdds_259 (sa7_23 hb3) rfl (by omega) (by decide) (show mm_I (mm_fL ν 55 h) 53 k = mm_I ν 53 k from rfl) ?_
                              refine am_icmp_ne fx 267 dX7_findOdds_260 (by decide) (fun c260 => ?_) (fun c260 => ?_)
                              · skip
                                refine am_iconst (v := 0) fx dX7_findOdds_267 (by decide) ?_
                                refine am_iadd fx dX7_findOdds_268 ?_
                                refine am_topi (show _ = nI (if kd = 0 then 1 else 2 + wts (mm_I ν 53) k (j + 1)) by rw [if_neg hk1, if_neg hk1]; simp only [wts, wte]; rw [if_neg (Int32.not_lt.mpr c239), if_neg (fun z => c260 z.2)]; exact nI_add _ 0) ?_
                                refine am_istore fx dX7_findOdds_269 (by decide) rfl ?_
                                first | refine am_iinc fx dX7_findOdds_271 rfl (nI_inc _) (by decide) rfl ?_ | refine am_iinc fx dX7_findOdds_271 rfl rfl (by decide) rfl ?_
                                refine am_goto fx 198 dX7_findOdds_274 (by decide) ?_
                                refine am_sub [true, true, true, true, false, false, true, true, true, true, true] rfl ?_
                                exact ih4 (n - (j + 1)) (by omega) (j + 1) rfl (by omega) (fun z => absurd z hk1)
                              · skip
                                refine am_iconst (v := 1) fx dX7_findOdds_263 (by decide) ?_
                                refine am_goto fx 268 dX7_findOdds_264 (by decide) ?_
                                refine am_iadd fx dX7_findOdds_268 ?_
                                refine am_topi (show _ = nI (if kd = 0 then 1 else 2 + wts (mm_I ν 53) k (j + 1)) by rw [if_neg hk1, if_neg hk1]; simp only [wts, wte]; rw [if_neg (Int32.not_lt.mpr c239), if_pos ⟨c218, c260⟩]; exact nI_add _ 1) ?_
                                refine am_istore fx dX7_findOdds_269 (by decide) rfl ?_
                                first | refine am_iinc fx dX7_findOdds_271 rfl (nI_inc _) (by decide) rfl ?_ | refine am_iinc fx dX7_findOdds_271 rfl rfl (by decide) rfl ?_
                                refine am_goto fx 198 dX7_findOdds_274 (by decide) ?_
                                refine am_sub [true, true, true, true, false, false, true, true, true, true, true] rfl ?_
                                exact ih4 (n - (j + 1)) (by omega) (j + 1) rfl (by omega) (fun z => absurd z hk1)
                            · skip
                              have c239 := Int32.not_le.mp c239
                              refine am_iconst (v := 2) fx dX7_findOdds_242 (by decide) ?_
                              refine am_goto fx 268 dX7_findOdds_243 (by decide) ?_
                              refine am_iadd fx dX7_findOdds_268 ?_
                              refine am_topi (show _ = nI (if kd = 0 then 1 else 2 + wts (mm_I ν 53) k (j + 1)) by rw [if_neg hk1, if_neg hk1]; simp only [wts, wte]; rw [if_pos c239]; exact nI_add _ 2) ?_
                              refine am_istore fx dX7_findOdds_269 (by decide) rfl ?_
                              first | refine am_iinc fx dX7_findOdds_271 rfl (nI_inc _) (by decide) rfl ?_ | refine am_iinc fx dX7_findOdds_271 rfl rfl (by decide) rfl ?_
                              refine am_goto fx 198 dX7_findOdds_274 (by decide) ?_
                              refine am_sub [true, true, true, true, false, false, true, true, true, true, true] rfl ?_
                              exact ih4 (n - (j + 1)) (by omega) (j + 1) rfl (by omega) (fun z => absurd z hk1)
                          · try simp (disch := omega) only [bz_0, Classical.not_not, Int32.not_le, Int32.not_lt, Nat.not_le, Nat.not_lt, nI_leI, nI_ltI, nI_eq, nI_le0, nI_lt0] at c218
                            refine am_iconst (v := 0) fx dX7_findOdds_221 (by decide) ?_
                            refine am_goto fx 268 dX7_findOdds_222 (by decide) ?_
                            refine am_iadd fx dX7_findOdds_268 ?_
                            refine am_topi (show _ = nI (if kd = 0 then 1 else 2 + wts (mm_I ν 53) k (j + 1)) by rw [if_neg hk1, if_neg hk1]; simp only [wts, wte]; rw [c218, if_neg Int32.lt_irrefl, if_neg (fun z => z.1 rfl)]; exact nI_add _ 0) ?_
                            refine am_istore fx dX7_findOdds_269 (by decide) rfl ?_
                            first | refine am_iinc fx dX7_findOdds_271 rfl (nI_inc _) (by decide) rfl ?_ | refine am_iinc fx dX7_findOdds_271 rfl rfl (by decide) rfl ?_
                            refine am_goto fx 198 dX7_findOdds_274 (by decide) ?_
                            refine am_sub [true, true, true, true, false, false, true, true, true, true, true] rfl ?_
                            exact ih4 (n - (j + 1)) (by omega) (j + 1) rfl (by omega) (fun z => absurd z hk1)
                  exact lp198 _ 0 rfl (Nat.zero_le _) (fun _ => rfl)
                · skip
                  refine am_iconst (v := 1) fx dX7_findOdds_188 (by decide) ?_
                  refine am_goto fx 193 dX7_findOdds_189 (by decide) ?_
                  refine am_topi (show _ = nI (if kd = 0 then 1 else 2 + wts (mm_I ν 53) k 0) from by rw [if_pos c185]; rfl) ?_
                  refine am_istore fx dX7_findOdds_193 (by decide) rfl ?_
                  refine am_iconst (v := 0) fx dX7_findOdds_195 (by decide) ?_
                  refine am_istore fx dX7_findOdds_196 (by decide) rfl ?_
                  have lp198 : ∀ (mz : Nat) (j : Nat), n - j = mz → j ≤ n → (kd = 0 → j = 0) → am_W E C (am_MQ E C (fun v μ' => v = none ∧ Sm Smo μ μ' ∧ (∀ k, mm_I μ' 46 k = mm_I μ 46 k) ∧ mm_L μ' 46 21 = lN ((odUN kd (fun r => cs a (od r)) (fun r => cs b (od r)) m) / Nat.gcd (odUN kd (fun r => cs a (od r)) (fun r => cs b (od r)) m) (2 ^ odN (fun r => cs a (od r)) (fun r => cs b (od r)) m)) ∧ mm_L μ' 46 22 = lN ((2 ^ odN (fun r => cs a (od r)) (fun r => cs b (od r)) m) / Nat.gcd (odUN kd (fun r => cs a (od r)) (fun r => cs b (od r)) m) (2 ^ odN (fun r => cs a (od r)) (fun r => cs b (od r)) m))) (rmX7_findOdds).cells (rmX7_findOdds).slots) (mm_fL ν 55 h) 0 0 198 [some (.ref 46), some (.int (nI a)), some (.int (nI b)), some (.int (nI n)), none, none, some (.int (nI (mst kd (mm_I ν 53) n k))), some (.int (nI (rch kd (mm_I ν 53) (mm_I ν 54) n k))), some (.int (nI k)), some (.int (nI (if kd = 0 then 1 else 2 + wts (mm_I ν 53) k j))), some (.int (nI j))] [] := by
                    intro mz
                    induction mz using Nat.strongRecOn with
                    | ind mz ih4 =>
                      intro j hz2 hj hj0
                      refine am_iload fx dX7_findOdds_198 rfl ?_
                      refine am_iload_n fx dX7_findOdds_200 rfl ?_
                      refine am_icmp_ge fx 277 dX7_findOdds_201 (by decide) (fun c201 => ?_) (fun c201 => ?_)
                      · try simp (disch := omega) only [bz_0, Classical.not_not, Int32.not_le, Int32.not_lt, Nat.not_le, Nat.not_lt, nI_leI, nI_ltI, nI_eq, nI_le0, nI_lt0] at c201
                        rw [show (if kd = 0 then 1 else 2 + wts (mm_I ν 53) k j) = (odw kd (mm_I ν 53) n k) by rw [show j = n by omega]; unfold odw wtN; rfl]
                        refine am_sub [true, true, true, true, false, false, true, true, true, true, false] rfl ?_
                        exact ct277
                      · try simp (disch := omega) only [bz_0, Classical.not_not, Int32.not_le, Int32.not_lt, Nat.not_le, Nat.not_lt, nI_leI, nI_ltI, nI_eq, nI_le0, nI_lt0] at c201
                        refine am_aload_n fx dX7_findOdds_204 rfl ?_
                        refine am_getI fx dX7_findOdds_205 fkX7_20 (by decide) (by decide) rfl (so7 hb3) h6b ?_
                        refine am_iconst (v := 1) fx dX7_findOdds_208 (by decide) ?_
                        refine am_icmp_ne fx 277 dX7_findOdds_209 (by decide) (fun c209 => ?_) (fun c209 => ?_)
                        · skip
                          rw [show (if kd = 0 then 1 else 2 + wts (mm_I ν 53) k j) = (odw kd (mm_I ν 53) n k) by unfold odw; rw [if_pos (hkd.resolve_right c209), if_pos (hkd.resolve_right c209)]]
                          refine am_sub [true, true, true, true, false, false, true, true, true, true, false] rfl ?_
                          exact ct277
                        · skip
                          have hk1 : ¬ kd = 0 := by rw [c209]; decide
                          refine am_iload fx dX7_findOdds_212 rfl ?_
                          refine am_iload fx dX7_findOdds_214 rfl ?_
                          refine am_iload fx dX7_findOdds_216 rfl ?_
                          refine am_icmp_ne fx 225 dX7_findOdds_218 (by decide) (fun c218 => ?_) (fun c218 => ?_)
                          · try simp (disch := omega) only [bz_0, Classical.not_not, Int32.not_le, Int32.not_lt, Nat.not_le, Nat.not_lt, nI_leI, nI_ltI, nI_eq, nI_le0, nI_lt0] at c218
                            refine am_aload_n fx dX7_findOdds_225 rfl ?_
                            refine am_getR fx dX7_findOdds_226 fkX7_33 (by decide) (by decide) rfl (so7 hb3) (rf7_23 hb3) ?_
                            refine am_iload fx dX7_findOdds_229 rfl ?_
                            refine am_iald (j := j) fx dX7_findOdds_231 (sa7_23 hb3) rfl (by omega) (by decide) (show mm_I (mm_fL ν 55 h) 53 j = mm_I ν 53 j from rfl) ?_
                            refine am_aload_n fx dX7_findOdds_232 rfl ?_
                            refine am_getR fx dX7_findOdds_233 fkX7_33 (by decide) (by decide) rfl (so7 hb3) (rf7_23 hb3) ?_
                            refine am_iload fx dX7_findOdds_236 rfl ?_
                            refine am_iald (j := k) fx dX7_findOdds_238 (sa7_23 hb3) rfl (by omega) (by decide) (show mm_I (mm_fL ν 55 h) 53 k = mm_I ν 53 k from rfl) ?_
                            refine am_icmp_ge fx 246 dX7_findOdds_239 (by decide) (fun c239 => ?_) (fun c239 => ?_)
                            · skip
                              refine am_aload_n fx dX7_findOdds_246 rfl ?_
                              refine am_getR fx dX7_findOdds_247 fkX7_33 (by decide) (by decide) rfl (so7 hb3) (rf7_23 hb3) ?_
                              refine am_iload fx dX7_findOdds_250 rfl ?_
                              refine am_iald (j := j) fx dX7_findOdds_252 (sa7_23 hb3) rfl (by omega) (by decide) (show mm_I (mm_fL ν 55 h) 53 j = mm_I ν 53 j from rfl) ?_
                              refine am_aload_n fx dX7_findOdds_253 rfl ?_
                              refine am_getR fx dX7_findOdds_254 fkX7_33 (by decide) (by decide) rfl (so7 hb3) (rf7_23 hb3) ?_
                              refine am_iload fx dX7_findOdds_257 rfl ?_
                              refine am_iald (j := k) fx dX7_findOdds_259 (sa7_23 hb3) rfl (by omega) (by decide) (show mm_I (mm_fL ν 55 h) 53 k = mm_I ν 53 k from rfl) ?_
                              refine am_icmp_ne fx 267 dX7_findOdds_260 (by decide) (fun c260 => ?_) (fun c260 => ?_)
                              · skip
                                refine am_iconst (v := 0) fx dX7_findOdds_267 (by decide) ?_
                                refine am_iadd fx dX7_findOdds_268 ?_
                                refine am_topi (show _ = nI (if kd = 0 then 1 else 2 + wts (mm_I ν 53) k (j + 1)) by rw [if_neg hk1, if_neg hk1]; simp only [wts, wte]; rw [if_neg (Int32.not_lt.mpr c239), if_neg (fun z => c260 z.2)]; exact nI_add _ 0) ?_
                                refine am_istore fx dX7_findOdds_269 (by decide) rfl ?_
                                first | refine am_iinc fx dX7_findOdds_271 rfl (nI_inc _) (by decide) rfl ?_ | refine am_iinc fx dX7_findOdds_271 rfl rfl (by decide) rfl ?_
                                refine am_goto fx 198 dX7_findOdds_274 (by decide) ?_
                                refine am_sub [true, true, true, true, false, false, true, true, true, true, true] rfl ?_
                                exact ih4 (n - (j + 1)) (by omega) (j + 1) rfl (by omega) (fun z => absurd z hk1)
                              · skip
                                refine am_iconst (v := 1) fx dX7_findOdds_263 (by decide) ?_
                                refine am_goto fx 268 dX7_findOdds_264 (by decide) ?_
                                refine am_iadd fx dX7_findOdds_268 ?_
                                refine am_topi (show _ = nI (if kd = 0 then 1 else 2 + wts (mm_I ν 53) k (j + 1)) by rw [if_neg hk1, if_neg hk1]; simp only [wts, wte]; rw [if_neg (Int32.not_lt.mpr c239), if_pos ⟨c218, c260⟩]; exact nI_add _ 1) ?_
                                refine am_istore fx dX7_findOdds_269 (by decide) rfl ?_
                                first | refine am_iinc fx dX7_findOdds_271 rfl (nI_inc _) (by decide) rfl ?_ | refine am_iinc fx dX7_findOdds_271 rfl rfl (by decide) rfl ?_
                                refine am_goto fx 198 dX7_findOdds_274 (by decide) ?_
                                refine am_sub [true, true, true, true, false, false, true, true, true, true, true] rfl ?_
                                exact ih4 (n - (j + 1)) (by omega) (j + 1) rfl (by omega) (fun z => absurd z hk1)
                            · skip
                              have c239 := Int32.not_le.mp c239
                              refine am_iconst (v := 2) fx dX7_findOdds_242 (by decide) ?_
                              refine am_goto fx 268 dX7_findOdds_243 (by decide) ?_
                              refine am_iadd fx dX7_findOdds_268 ?_
                              refine am_topi (show _ = nI (if kd = 0 then 1 else 2 + wts (mm_I ν 53) k (j + 1)) by rw [if_neg hk1, if_neg hk1]; simp only [wts, wte]; rw [if_pos c239]; exact nI_add _ 2) ?_
                              refine am_istore fx dX7_findOdds_269 (by decide) rfl ?_
                              first | refine am_iinc fx dX7_findOdds_271 rfl (nI_inc _) (by decide) rfl ?_ | refine am_iinc fx dX7_findOdds_271 rfl rfl (by decide) rfl ?_
                              refine am_goto fx 198 dX7_findOdds_274 (by decide) ?_
                              refine am_sub [true, true, true, true, false, false, true, true, true, true, true] rfl ?_
                              exact ih4 (n - (j + 1)) (by omega) (j + 1) rfl (by omega) (fun z => absurd z hk1)
                          · try simp (disch := omega) only [bz_0, Classical.not_not, Int32.not_le, Int32.not_lt, Nat.not_le, Nat.not_lt, nI_leI, nI_ltI, nI_eq, nI_le0, nI_lt0] at c218
                            refine am_iconst (v := 0) fx dX7_findOdds_221 (by decide) ?_
                            refine am_goto fx 268 dX7_findOdds_222 (by decide) ?_
                            refine am_iadd fx dX7_findOdds_268 ?_
                            refine am_topi (show _ = nI (if kd = 0 then 1 else 2 + wts (mm_I ν 53) k (j + 1)) by rw [if_neg hk1, if_neg hk1]; simp only [wts, wte]; rw [c218, if_neg Int32.lt_irrefl, if_neg (fun z => z.1 rfl)]; exact nI_add _ 0) ?_
                            refine am_istore fx dX7_findOdds_269 (by decide) rfl ?_
                            first | refine am_iinc fx dX7_findOdds_271 rfl (nI_inc _) (by decide) rfl ?_ | refine am_iinc fx dX7_findOdds_271 rfl rfl (by decide) rfl ?_
                            refine am_goto fx 198 dX7_findOdds_274 (by decide) ?_
                            refine am_sub [true, true, true, true, false, false, true, true, true, true, true] rfl ?_
                            exact ih4 (n - (j + 1)) (by omega) (j + 1) rfl (by omega) (fun z => absurd z hk1)
                  exact lp198 _ 0 rfl (Nat.zero_le _) (fun _ => rfl)
          refine am_sub [true, true, true, true, false, false, true, true, true, false, false] rfl ?_
          exact am_mem (show _ = mm_fL ν 55 (vp_updL (flL 0 (mm_L ν 55) 1300) 0 1) by rw [sL_fL, show t = 1300 by omega]) (lp175 _ 0 _ rfl (Nat.zero_le _) (fun t ht => by simp only [vp_updL, flL, wy]; split <;> simp_all))
        · try simp (disch := omega) only [bz_0, Classical.not_not, Int32.not_le, Int32.not_lt, Nat.not_le, Nat.not_lt, nI_leI, nI_ltI, nI_eq, nI_le0, nI_lt0] at c148
          refine am_aload_n fx dX7_findOdds_151 rfl ?_
          refine am_getR fx dX7_findOdds_152 fkX7_39 (by decide) (by decide) rfl (so7 hbn) (rf7_25 hbn) ?_
          refine am_iload fx dX7_findOdds_155 rfl ?_
          refine am_lconst (v := 0) fx dX7_findOdds_157 (by decide) ?_
          refine am_last (j := t) fx dX7_findOdds_158 (sa7_25 hbn) rfl (by omega) (by decide) ?_
          first | refine am_iinc fx dX7_findOdds_159 rfl (nI_inc _) (by decide) rfl ?_ | refine am_iinc fx dX7_findOdds_159 rfl rfl (by decide) rfl ?_
          refine am_goto fx 143 dX7_findOdds_162 (by decide) ?_
          exact am_mem (by rw [sL_fL, flL_s]) (ih2 (1300 - (t + 1)) (by omega) (t + 1) rfl (by omega))
    refine am_sub [true, true, true, true, false, false, true, true, true, false, false] rfl ?_
    exact am_mem (show ν = mm_fL ν 55 (flL 0 (mm_L ν 55) 0) by rw [flL_0, fL_self]) (lp143 _ 0 rfl (Nat.zero_le _))
  refine am_iconst (v := 0) fx dX7_findOdds_0 (by decide) ?_
  refine am_topi (show (0 : Int32) = nI (cnt (neB (fun r => cs a (od r)) (fun r => cs b (od r))) 0) from rfl) ?_
  refine am_istore_n fx dX7_findOdds_1 (by decide) rfl ?_
  refine am_iconst (v := 0) fx dX7_findOdds_2 (by decide) ?_
  refine am_istore fx dX7_findOdds_3 (by decide) rfl ?_
  refine am_aload_n fx dX7_findOdds_5 rfl ?_
  refine am_iload_n fx dX7_findOdds_6 rfl ?_
  refine am_callV fx dX7_findOdds_7 mkX7_135 (ct_X7_ranOf hb ho a ha) (so7 hb) ⟨by decide, rfl⟩ rfl (Nat.le_of_ble_eq_true rfl) ⟨by decide, by decide⟩ ⟨Nat.le_of_ble_eq_true rfl, Nat.le_of_ble_eq_true rfl⟩ rfl ?_
  rintro _ _ ⟨rfl, rfl⟩
  rw [hra]
  refine am_aload_n fx dX7_findOdds_10 rfl ?_
  refine am_iload_n fx dX7_findOdds_11 rfl ?_
  refine am_callV fx dX7_findOdds_12 mkX7_135 (ct_X7_ranOf hb ho b hb9) (so7 hb) ⟨by decide, rfl⟩ rfl (Nat.le_of_ble_eq_true rfl) ⟨by decide, by decide⟩ ⟨Nat.le_of_ble_eq_true rfl, Nat.le_of_ble_eq_true rfl⟩ rfl ?_
  rintro _ _ ⟨rfl, rfl⟩
  rw [hrb]
  refine am_icmp_ge fx 26 dX7_findOdds_15 (by decide) (fun c15 => ?_) (fun c15 => ?_)
  · try simp (disch := omega) only [bz_0, Classical.not_not, Int32.not_le, Int32.not_lt, Nat.not_le, Nat.not_lt, nI_leI, nI_ltI, nI_eq, nI_le0, nI_lt0] at c15
    refine am_aload_n fx dX7_findOdds_26 rfl ?_
    refine am_iload_n fx dX7_findOdds_27 rfl ?_
    refine am_callV fx dX7_findOdds_28 mkX7_135 (ct_X7_ranOf hb ho b hb9) (so7 hb) ⟨by decide, rfl⟩ rfl (Nat.le_of_ble_eq_true rfl) ⟨by decide, by decide⟩ ⟨Nat.le_of_ble_eq_true rfl, Nat.le_of_ble_eq_true rfl⟩ rfl ?_
    rintro _ _ ⟨rfl, rfl⟩
    rw [hrb, show rb = m by omega]
    refine am_istore fx dX7_findOdds_31 (by decide) rfl ?_
    refine am_iconst (v := 0) fx dX7_findOdds_33 (by decide) ?_
    refine am_istore fx dX7_findOdds_34 (by decide) rfl ?_
    have lp36 : ∀ (mz : Nat) (r : Nat) (wv : Int32), m - r = mz → r ≤ m → am_W E C (am_MQ E C (fun v μ' => v = none ∧ Sm Smo μ μ' ∧ (∀ k, mm_I μ' 46 k = mm_I μ 46 k) ∧ mm_L μ' 46 21 = lN ((odUN kd (fun r => cs a (od r)) (fun r => cs b (od r)) m) / Nat.gcd (odUN kd (fun r => cs a (od r)) (fun r => cs b (od r)) m) (2 ^ odN (fun r => cs a (od r)) (fun r => cs b (od r)) m)) ∧ mm_L μ' 46 22 = lN ((2 ^ odN (fun r => cs a (od r)) (fun r => cs b (od r)) m) / Nat.gcd (odUN kd (fun r => cs a (od r)) (fun r => cs b (od r)) m) (2 ^ odN (fun r => cs a (od r)) (fun r => cs b (od r)) m))) (rmX7_findOdds).cells (rmX7_findOdds).slots) (mm_fI (mm_fI μ 53 (filv (neB (fun r => cs a (od r)) (fun r => cs b (od r))) (fun r => ab ((fun r => cs a (od r)) r - (fun r => cs b (od r)) r)) (mm_I μ 53) r)) 54 (filv (neB (fun r => cs a (od r)) (fun r => cs b (od r))) (fun r => bz ((fun r => cs a (od r)) r < (fun r => cs b (od r)) r)) (mm_I μ 54) r)) 0 0 36 [some (.ref 46), some (.int (nI a)), some (.int (nI b)), some (.int (nI (cnt (neB (fun r => cs a (od r)) (fun r => cs b (od r))) r))), some (.int wv), some (.int (nI m)), some (.int (nI r)), none, none, none, none] [] := by
      intro mz
      induction mz using Nat.strongRecOn with
      | ind mz ih =>
        intro r wv hz hr
        have hb2 : Bs (mm_fI (mm_fI μ 53 (filv (neB (fun r => cs a (od r)) (fun r => cs b (od r))) (fun r => ab ((fun r => cs a (od r)) r - (fun r => cs b (od r)) r)) (mm_I μ 53) r)) 54 (filv (neB (fun r => cs a (od r)) (fun r => cs b (od r))) (fun r => bz ((fun r => cs a (od r)) r < (fun r => cs b (od r)) r)) (mm_I μ 54) r)) := hb.fr ⟨rfl, rfl, rfl⟩
        have hm2 : Mt (mm_fI (mm_fI μ 53 (filv (neB (fun r => cs a (od r)) (fun r => cs b (od r))) (fun r => ab ((fun r => cs a (od r)) r - (fun r => cs b (od r)) r)) (mm_I μ 53) r)) 54 (filv (neB (fun r => cs a (od r)) (fun r => cs b (od r))) (fun r => bz ((fun r => cs a (od r)) r < (fun r => cs b (od r)) r)) (mm_I μ 54) r)) S N cs := hm.keep rfl rfl (fun k => rfl)
        have hc9 := cnt_le (neB (fun r => cs a (od r)) (fun r => cs b (od r))) r
        refine am_iload fx dX7_findOdds_36 rfl ?_
        refine am_iload fx dX7_findOdds_38 rfl ?_
        refine am_icmp_ge fx 134 dX7_findOdds_40 (by decide) (fun c40 => ?_) (fun c40 => ?_)
        · try simp (disch := omega) only [bz_0, Classical.not_not, Int32.not_le, Int32.not_lt, Nat.not_le, Nat.not_lt, nI_leI, nI_ltI, nI_eq, nI_le0, nI_lt0] at c40
          refine am_sub [true, true, true, true, false, false, false, false, false, false, false] rfl ?_
          rw [show r = m by omega]
          exact ct134 _ _ rfl ⟨rfl, rfl, rfl⟩ (fun x y hx => by rw [mI_fIn (fun z => hx (by unfold Smo; omega)), mI_fIn (fun z => hx (by unfold Smo; omega))]) (fun x y hx => rfl) (fun k => by rw [mI_fIn (by decide), mI_fIn (by decide)]) (fun j hj => ⟨by rw [mI_fIn (by decide), mI_fIs]; exact filv_any _ _ _ _ m j hj, by rw [mI_fIs]; exact filv_any _ _ _ _ m j hj⟩)
        · try simp (disch := omega) only [bz_0, Classical.not_not, Int32.not_le, Int32.not_lt, Nat.not_le, Nat.not_lt, nI_leI, nI_ltI, nI_eq, nI_le0, nI_lt0] at c40
          refine am_aload_n fx dX7_findOdds_43 rfl ?_
          refine am_iload_n fx dX7_findOdds_44 rfl ?_
          refine am_aload_n fx dX7_findOdds_45 rfl ?_
          refine am_getR fx dX7_findOdds_46 fkX7_24 (by decide) (by decide) rfl (so7 hb2) (rf7_14 hb2) ?_
          refine am_iload fx dX7_findOdds_49 rfl ?_
          refine am_iald (j := r) fx dX7_findOdds_51 (sa7_14 hb2) rfl (by omega) (by decide) ((show mm_I _ 50 r = mm_I μ 50 r from rfl).trans (ho.xo (by omega))) ?_
          refine am_callV fx dX7_findOdds_52 mkX7_65 (ct_X7_costAt hb2 hm2 a (od r) ha (ho.ol (by omega))) (so7 hb2) ⟨by decide, rfl⟩ rfl (Nat.le_of_ble_eq_true rfl) ⟨by decide, by decide⟩ ⟨Nat.le_of_ble_eq_true rfl, Nat.le_of_ble_eq_true rfl⟩ rfl ?_
          rintro _ _ ⟨rfl, rfl⟩
          refine am_aload_n fx dX7_findOdds_55 rfl ?_
          refine am_iload_n fx dX7_findOdds_56 rfl ?_
          refine am_aload_n fx dX7_findOdds_57 rfl ?_
          refine am_getR fx dX7_findOdds_58 fkX7_24 (by decide) (by decide) rfl (so7 hb2) (rf7_14 hb2) ?_
          refine am_iload fx dX7_findOdds_61 rfl ?_
          refine am_iald (j := r) fx dX7_findOdds_63 (sa7_14 hb2) rfl (by omega) (by decide) ((show mm_I _ 50 r = mm_I μ 50 r from rfl).trans (ho.xo (by omega))) ?_
          refine am_callV fx dX7_findOdds_64 mkX7_65 (ct_X7_costAt hb2 hm2 b (od r) hb9 (ho.ol (by omega))) (so7 hb2) ⟨by decide, rfl⟩ rfl (Nat.le_of_ble_eq_true rfl) ⟨by decide, by decide⟩ ⟨Nat.le_of_ble_eq_true rfl, Nat.le_of_ble_eq_true rfl⟩ rfl ?_
          rintro _ _ ⟨rfl, rfl⟩
          have hsb := cs_sub (hm.2.2.2.2.2 a (od r) ha (ho.ol (by omega))) (hm.2.2.2.2.2 b (od r) hb9 (ho.ol (by omega)))
          refine am_isub fx dX7_findOdds_67 ?_
          refine am_istore fx dX7_findOdds_68 (by decide) rfl ?_
          refine am_iload fx dX7_findOdds_70 rfl ?_
          refine am_if_eq fx 128 dX7_findOdds_72 (by decide) (fun c72 => ?_) (fun c72 => ?_)
          · skip
            have c72 := hsb.2.mp c72
            first | refine am_iinc fx dX7_findOdds_128 rfl (nI_inc _) (by decide) rfl ?_ | refine am_iinc fx dX7_findOdds_128 rfl rfl (by decide) rfl ?_
            refine am_goto fx 36 dX7_findOdds_131 (by decide) ?_
            have e9 : ¬ (neB (fun r => cs a (od r)) (fun r => cs b (od r))) r = true := by simp [c72]
            rw [← cnt_f (b := (neB (fun r => cs a (od r)) (fun r => cs b (od r)))) (r := r) e9]
            refine am_sub [true, true, true, true, true, true, true, false, false, false, false] rfl ?_
            exact am_mem (by simp only [filv, if_neg e9]) (ih (m - (r + 1)) (by omega) (r + 1) _ rfl (by omega))
          · skip
            have c72 : ¬ cs a (od r) = cs b (od r) := fun z => c72 (hsb.2.mpr z)
            refine am_aload_n fx dX7_findOdds_75 rfl ?_
            refine am_getR fx dX7_findOdds_76 fkX7_33 (by decide) (by decide) rfl (so7 hb2) (rf7_23 hb2) ?_
            refine am_iload_n fx dX7_findOdds_79 rfl ?_
            refine am_iload fx dX7_findOdds_80 rfl ?_
            refine am_if_ge fx 91 dX7_findOdds_82 (by decide) (fun c82 => ?_) (fun c82 => ?_)
            · skip
              refine am_iload fx dX7_findOdds_91 rfl ?_
              refine am_topi (show _ = (fun r => ab ((fun r => cs a (od r)) r - (fun r => cs b (od r)) r)) r from (if_pos c82).symm) ?_
              refine am_iast (j := (cnt (neB (fun r => cs a (od r)) (fun r => cs b (od r))) r)) fx dX7_findOdds_93 (sa7_23 hb2) rfl (by omega) (by decide) ?_
              refine am_aload_n fx dX7_findOdds_94 rfl ?_
              refine am_getR fx dX7_findOdds_95 fkX7_36 (by decide) (by decide) rfl (so7 hb2) (rf7_24 hb2) ?_
              refine am_iload_n fx dX7_findOdds_98 rfl ?_
              refine am_iload fx dX7_findOdds_99 rfl ?_
              refine am_if_ge fx 108 dX7_findOdds_101 (by decide) (fun c101 => ?_) (fun c101 => ?_)
              · skip
                refine am_iconst (v := 0) fx dX7_findOdds_108 (by decide) ?_
                refine am_topi (show _ = (fun r => bz ((fun r => cs a (od r)) r < (fun r => cs b (od r)) r)) r from bz_f (fun z => Int32.not_lt.mpr c82 (hsb.1.mpr z))) ?_
                refine am_zast (j := (cnt (neB (fun r => cs a (od r)) (fun r => cs b (od r))) r)) fx dX7_findOdds_109 (sa7_24 hb2) rfl (by omega) (by decide) (by first | exact Or.inl rfl | exact Or.inr rfl | exact bz_01) ?_
                refine am_iload fx dX7_findOdds_110 rfl ?_
                refine am_iload fx dX7_findOdds_112 rfl ?_
                refine am_if_ge fx 121 dX7_findOdds_114 (by decide) (fun c114 => ?_) (fun c114 => ?_)
                · skip
                  refine am_iconst (v := 0) fx dX7_findOdds_121 (by decide) ?_
                  refine am_iadd fx dX7_findOdds_122 ?_
                  refine am_istore fx dX7_findOdds_123 (by decide) rfl ?_
                  first | refine am_iinc fx dX7_findOdds_125 rfl (nI_inc _) (by decide) rfl ?_ | refine am_iinc fx dX7_findOdds_125 rfl rfl (by decide) rfl ?_
                  first | refine am_iinc fx dX7_findOdds_128 rfl (nI_inc _) (by decide) rfl ?_ | refine am_iinc fx dX7_findOdds_128 rfl rfl (by decide) rfl ?_
                  refine am_goto fx 36 dX7_findOdds_131 (by decide) ?_
                  have e9 : (neB (fun r => cs a (od r)) (fun r => cs b (od r))) r = true := by simp [c72]
                  rw [← cnt_t (b := (neB (fun r => cs a (od r)) (fun r => cs b (od r)))) (r := r) e9]
                  refine am_sub [true, true, true, true, true, true, true, false, false, false, false] rfl ?_
                  exact am_mem (by rw [fg_s]; simp only [filv, if_pos e9]) (ih (m - (r + 1)) (by omega) (r + 1) _ rfl (by omega))
                · skip
                  exact absurd c82 c114
              · skip
                exact absurd c82 c101
            · skip
              refine am_iload fx dX7_findOdds_85 rfl ?_
              refine am_ineg fx dX7_findOdds_87 ?_
              refine am_goto fx 93 dX7_findOdds_88 (by decide) ?_
              refine am_topi (show _ = (fun r => ab ((fun r => cs a (od r)) r - (fun r => cs b (od r)) r)) r from (show -(cs a (od r) - cs b (od r)) = ab (cs a (od r) - cs b (od r)) by unfold ab; rw [if_neg c82, Int32.zero_sub])) ?_
              refine am_iast (j := (cnt (neB (fun r => cs a (od r)) (fun r => cs b (od r))) r)) fx dX7_findOdds_93 (sa7_23 hb2) rfl (by omega) (by decide) ?_
              refine am_aload_n fx dX7_findOdds_94 rfl ?_
              refine am_getR fx dX7_findOdds_95 fkX7_36 (by decide) (by decide) rfl (so7 hb2) (rf7_24 hb2) ?_
              refine am_iload_n fx dX7_findOdds_98 rfl ?_
              refine am_iload fx dX7_findOdds_99 rfl ?_
              refine am_if_ge fx 108 dX7_findOdds_101 (by decide) (fun c101 => ?_) (fun c101 => ?_)
              · skip
                exact absurd c101 c82
              · skip
                refine am_iconst (v := 1) fx dX7_findOdds_104 (by decide) ?_
                refine am_goto fx 109 dX7_findOdds_105 (by decide) ?_
                refine am_topi (show _ = (fun r => bz ((fun r => cs a (od r)) r < (fun r => cs b (od r)) r)) r from bz_t (hsb.1.mp (Int32.not_le.mp c82))) ?_
                refine am_zast (j := (cnt (neB (fun r => cs a (od r)) (fun r => cs b (od r))) r)) fx dX7_findOdds_109 (sa7_24 hb2) rfl (by omega) (by decide) (by first | exact Or.inl rfl | exact Or.inr rfl | exact bz_01) ?_
                refine am_iload fx dX7_findOdds_110 rfl ?_
                refine am_iload fx dX7_findOdds_112 rfl ?_
                refine am_if_ge fx 121 dX7_findOdds_114 (by decide) (fun c114 => ?_) (fun c114 => ?_)
                · skip
                  exact absurd c114 c82
                · skip
                  refine am_iconst (v := 1) fx dX7_findOdds_117 (by decide) ?_
                  refine am_goto fx 122 dX7_findOdds_118 (by decide) ?_
                  refine am_iadd fx dX7_findOdds_122 ?_
                  refine am_istore fx dX7_findOdds_123 (by decide) rfl ?_
                  first | refine am_iinc fx dX7_findOdds_125 rfl (nI_inc _) (by decide) rfl ?_ | refine am_iinc fx dX7_findOdds_125 rfl rfl (by decide) rfl ?_
                  first | refine am_iinc fx dX7_findOdds_128 rfl (nI_inc _) (by decide) rfl ?_ | refine am_iinc fx dX7_findOdds_128 rfl rfl (by decide) rfl ?_
                  refine am_goto fx 36 dX7_findOdds_131 (by decide) ?_
                  have e9 : (neB (fun r => cs a (od r)) (fun r => cs b (od r))) r = true := by simp [c72]
                  rw [← cnt_t (b := (neB (fun r => cs a (od r)) (fun r => cs b (od r)))) (r := r) e9]
                  refine am_sub [true, true, true, true, true, true, true, false, false, false, false] rfl ?_
                  exact am_mem (by rw [fg_s]; simp only [filv, if_pos e9]) (ih (m - (r + 1)) (by omega) (r + 1) _ rfl (by omega))
    refine am_sub [true, true, true, true, true, true, true, false, false, false, false] rfl ?_
    exact am_mem (show μ = (mm_fI (mm_fI μ 53 (filv (neB (fun r => cs a (od r)) (fun r => cs b (od r))) (fun r => ab ((fun r => cs a (od r)) r - (fun r => cs b (od r)) r)) (mm_I μ 53) 0)) 54 (filv (neB (fun r => cs a (od r)) (fun r => cs b (od r))) (fun r => bz ((fun r => cs a (od r)) r < (fun r => cs b (od r)) r)) (mm_I μ 54) 0)) by simp only [filv]; rw [fI_self, fI_self]) (lp36 _ 0 _ rfl (Nat.zero_le _))
  · try simp (disch := omega) only [bz_0, Classical.not_not, Int32.not_le, Int32.not_lt, Nat.not_le, Nat.not_lt, nI_leI, nI_ltI, nI_eq, nI_le0, nI_lt0] at c15
    refine am_aload_n fx dX7_findOdds_18 rfl ?_
    refine am_iload_n fx dX7_findOdds_19 rfl ?_
    refine am_callV fx dX7_findOdds_20 mkX7_135 (ct_X7_ranOf hb ho a ha) (so7 hb) ⟨by decide, rfl⟩ rfl (Nat.le_of_ble_eq_true rfl) ⟨by decide, by decide⟩ ⟨Nat.le_of_ble_eq_true rfl, Nat.le_of_ble_eq_true rfl⟩ rfl ?_
    rintro _ _ ⟨rfl, rfl⟩
    rw [hra, show ra = m by omega]
    refine am_goto fx 31 dX7_findOdds_23 (by decide) ?_
    refine am_istore fx dX7_findOdds_31 (by decide) rfl ?_
    refine am_iconst (v := 0) fx dX7_findOdds_33 (by decide) ?_
    refine am_istore fx dX7_findOdds_34 (by decide) rfl ?_
    have lp36 : ∀ (mz : Nat) (r : Nat) (wv : Int32), m - r = mz → r ≤ m → am_W E C (am_MQ E C (fun v μ' => v = none ∧ Sm Smo μ μ' ∧ (∀ k, mm_I μ' 46 k = mm_I μ 46 k) ∧ mm_L μ' 46 21 = lN ((odUN kd (fun r => cs a (od r)) (fun r => cs b (od r)) m) / Nat.gcd (odUN kd (fun r => cs a (od r)) (fun r => cs b (od r)) m) (2 ^ odN (fun r => cs a (od r)) (fun r => cs b (od r)) m)) ∧ mm_L μ' 46 22 = lN ((2 ^ odN (fun r => cs a (od r)) (fun r => cs b (od r)) m) / Nat.gcd (odUN kd (fun r => cs a (od r)) (fun r => cs b (od r)) m) (2 ^ odN (fun r => cs a (od r)) (fun r => cs b (od r)) m))) (rmX7_findOdds).cells (rmX7_findOdds).slots) (mm_fI (mm_fI μ 53 (filv (neB (fun r => cs a (od r)) (fun r => cs b (od r))) (fun r => ab ((fun r => cs a (od r)) r - (fun r => cs b (od r)) r)) (mm_I μ 53) r)) 54 (filv (neB (fun r => cs a (od r)) (fun r => cs b (od r))) (fun r => bz ((fun r => cs a (od r)) r < (fun r => cs b (od r)) r)) (mm_I μ 54) r)) 0 0 36 [some (.ref 46), some (.int (nI a)), some (.int (nI b)), some (.int (nI (cnt (neB (fun r => cs a (od r)) (fun r => cs b (od r))) r))), some (.int wv), some (.int (nI m)), some (.int (nI r)), none, none, none, none] [] := by
      intro mz
      induction mz using Nat.strongRecOn with
      | ind mz ih =>
        intro r wv hz hr
        have hb2 : Bs (mm_fI (mm_fI μ 53 (filv (neB (fun r => cs a (od r)) (fun r => cs b (od r))) (fun r => ab ((fun r => cs a (od r)) r - (fun r => cs b (od r)) r)) (mm_I μ 53) r)) 54 (filv (neB (fun r => cs a (od r)) (fun r => cs b (od r))) (fun r => bz ((fun r => cs a (od r)) r < (fun r => cs b (od r)) r)) (mm_I μ 54) r)) := hb.fr ⟨rfl, rfl, rfl⟩
        have hm2 : Mt (mm_fI (mm_fI μ 53 (filv (neB (fun r => cs a (od r)) (fun r => cs b (od r))) (fun r => ab ((fun r => cs a (od r)) r - (fun r => cs b (od r)) r)) (mm_I μ 53) r)) 54 (filv (neB (fun r => cs a (od r)) (fun r => cs b (od r))) (fun r => bz ((fun r => cs a (od r)) r < (fun r => cs b (od r)) r)) (mm_I μ 54) r)) S N cs := hm.keep rfl rfl (fun k => rfl)
        have hc9 := cnt_le (neB (fun r => cs a (od r)) (fun r => cs b (od r))) r
        refine am_iload fx dX7_findOdds_36 rfl ?_
        refine am_iload fx dX7_findOdds_38 rfl ?_
        refine am_icmp_ge fx 134 dX7_findOdds_40 (by decide) (fun c40 => ?_) (fun c40 => ?_)
        · try simp (disch := omega) only [bz_0, Classical.not_not, Int32.not_le, Int32.not_lt, Nat.not_le, Nat.not_lt, nI_leI, nI_ltI, nI_eq, nI_le0, nI_lt0] at c40
          refine am_sub [true, true, true, true, false, false, false, false, false, false, false] rfl ?_
          rw [show r = m by omega]
          exact ct134 _ _ rfl ⟨rfl, rfl, rfl⟩ (fun x y hx => by rw [mI_fIn (fun z => hx (by unfold Smo; omega)), mI_fIn (fun z => hx (by unfold Smo; omega))]) (fun x y hx => rfl) (fun k => by rw [mI_fIn (by decide), mI_fIn (by decide)]) (fun j hj => ⟨by rw [mI_fIn (by decide), mI_fIs]; exact filv_any _ _ _ _ m j hj, by rw [mI_fIs]; exact filv_any _ _ _ _ m j hj⟩)
        · try simp (disch := omega) only [bz_0, Classical.not_not, Int32.not_le, Int32.not_lt, Nat.not_le, Nat.not_lt, nI_leI, nI_ltI, nI_eq, nI_le0, nI_lt0] at c40
          refine am_aload_n fx dX7_findOdds_43 rfl ?_
          refine am_iload_n fx dX7_findOdds_44 rfl ?_
          refine am_aload_n fx dX7_findOdds_45 rfl ?_
          refine am_getR fx dX7_findOdds_46 fkX7_24 (by decide) (by decide) rfl (so7 hb2) (rf7_14 hb2) ?_
          refine am_iload fx dX7_findOdds_49 rfl ?_
          refine am_iald (j := r) fx dX7_findOdds_51 (sa7_14 hb2) rfl (by omega) (by decide) ((show mm_I _ 50 r = mm_I μ 50 r from rfl).trans (ho.xo (by omega))) ?_
          refine am_callV fx dX7_findOdds_52 mkX7_65 (ct_X7_costAt hb2 hm2 a (od r) ha (ho.ol (by omega))) (so7 hb2) ⟨by decide, rfl⟩ rfl (Nat.le_of_ble_eq_true rfl) ⟨by decide, by decide⟩ ⟨Nat.le_of_ble_eq_true rfl, Nat.le_of_ble_eq_true rfl⟩ rfl ?_
          rintro _ _ ⟨rfl, rfl⟩
          refine am_aload_n fx dX7_findOdds_55 rfl ?_
          refine am_iload_n fx dX7_findOdds_56 rfl ?_
          refine am_aload_n fx dX7_findOdds_57 rfl ?_
          refine am_getR fx dX7_findOdds_58 fkX7_24 (by decide) (by decide) rfl (so7 hb2) (rf7_14 hb2) ?_
          refine am_iload fx dX7_findOdds_61 rfl ?_
          refine am_iald (j := r) fx dX7_findOdds_63 (sa7_14 hb2) rfl (by omega) (by decide) ((show mm_I _ 50 r = mm_I μ 50 r from rfl).trans (ho.xo (by omega))) ?_
          refine am_callV fx dX7_findOdds_64 mkX7_65 (ct_X7_costAt hb2 hm2 b (od r) hb9 (ho.ol (by omega))) (so7 hb2) ⟨by decide, rfl⟩ rfl (Nat.le_of_ble_eq_true rfl) ⟨by decide, by decide⟩ ⟨Nat.le_of_ble_eq_true rfl, Nat.le_of_ble_eq_true rfl⟩ rfl ?_
          rintro _ _ ⟨rfl, rfl⟩
          have hsb := cs_sub (hm.2.2.2.2.2 a (od r) ha (ho.ol (by omega))) (hm.2.2.2.2.2 b (od r) hb9 (ho.ol (by omega)))
          refine am_isub fx dX7_findOdds_67 ?_
          refine am_istore fx dX7_findOdds_68 (by decide) rfl ?_
          refine am_iload fx dX7_findOdds_70 rfl ?_
          refine am_if_eq fx 128 dX7_findOdds_72 (by decide) (fun c72 => ?_) (fun c72 => ?_)
          · skip
            have c72 := hsb.2.mp c72
            first | refine am_iinc fx dX7_findOdds_128 rfl (nI_inc _) (by decide) rfl ?_ | refine am_iinc fx dX7_findOdds_128 rfl rfl (by decide) rfl ?_
            refine am_goto fx 36 dX7_findOdds_131 (by decide) ?_
            have e9 : ¬ (neB (fun r => cs a (od r)) (fun r => cs b (od r))) r = true := by simp [c72]
            rw [← cnt_f (b := (neB (fun r => cs a (od r)) (fun r => cs b (od r)))) (r := r) e9]
            refine am_sub [true, true, true, true, true, true, true, false, false, false, false] rfl ?_
            exact am_mem (by simp only [filv, if_neg e9]) (ih (m - (r + 1)) (by omega) (r + 1) _ rfl (by omega))
          · skip
            have c72 : ¬ cs a (od r) = cs b (od r) := fun z => c72 (hsb.2.mpr z)
            refine am_aload_n fx dX7_findOdds_75 rfl ?_
            refine am_getR fx dX7_findOdds_76 fkX7_33 (by decide) (by decide) rfl (so7 hb2) (rf7_23 hb2) ?_
            refine am_iload_n fx dX7_findOdds_79 rfl ?_
            refine am_iload fx dX7_findOdds_80 rfl ?_
            refine am_if_ge fx 91 dX7_findOdds_82 (by decide) (fun c82 => ?_) (fun c82 => ?_)
            · skip
              refine am_iload fx dX7_findOdds_91 rfl ?_
              refine am_topi (show _ = (fun r => ab ((fun r => cs a (od r)) r - (fun r => cs b (od r)) r)) r from (if_pos c82).symm) ?_
              refine am_iast (j := (cnt (neB (fun r => cs a (od r)) (fun r => cs b (od r))) r)) fx dX7_findOdds_93 (sa7_23 hb2) rfl (by omega) (by decide) ?_
              refine am_aload_n fx dX7_findOdds_94 rfl ?_
              refine am_getR fx dX7_findOdds_95 fkX7_36 (by decide) (by decide) rfl (so7 hb2) (rf7_24 hb2) ?_
              refine am_iload_n fx dX7_findOdds_98 rfl ?_
              refine am_iload fx dX7_findOdds_99 rfl ?_
              refine am_if_ge fx 108 dX7_findOdds_101 (by decide) (fun c101 => ?_) (fun c101 => ?_)
              · skip
                refine am_iconst (v := 0) fx dX7_findOdds_108 (by decide) ?_
                refine am_topi (show _ = (fun r => bz ((fun r => cs a (od r)) r < (fun r => cs b (od r)) r)) r from bz_f (fun z => Int32.not_lt.mpr c82 (hsb.1.mpr z))) ?_
                refine am_zast (j := (cnt (neB (fun r => cs a (od r)) (fun r => cs b (od r))) r)) fx dX7_findOdds_109 (sa7_24 hb2) rfl (by omega) (by decide) (by first | exact Or.inl rfl | exact Or.inr rfl | exact bz_01) ?_
                refine am_iload fx dX7_findOdds_110 rfl ?_
                refine am_iload fx dX7_findOdds_112 rfl ?_
                refine am_if_ge fx 121 dX7_findOdds_114 (by decide) (fun c114 => ?_) (fun c114 => ?_)
                · skip
                  refine am_iconst (v := 0) fx dX7_findOdds_121 (by decide) ?_
                  refine am_iadd fx dX7_findOdds_122 ?_
                  refine am_istore fx dX7_findOdds_123 (by decide) rfl ?_
                  first | refine am_iinc fx dX7_findOdds_125 rfl (nI_inc _) (by decide) rfl ?_ | refine am_iinc fx dX7_findOdds_125 rfl rfl (by decide) rfl ?_
                  first | refine am_iinc fx dX7_findOdds_128 rfl (nI_inc _) (by decide) rfl ?_ | refine am_iinc fx dX7_findOdds_128 rfl rfl (by decide) rfl ?_
                  refine am_goto fx 36 dX7_findOdds_131 (by decide) ?_
                  have e9 : (neB (fun r => cs a (od r)) (fun r => cs b (od r))) r = true := by simp [c72]
                  rw [← cnt_t (b := (neB (fun r => cs a (od r)) (fun r => cs b (od r)))) (r := r) e9]
                  refine am_sub [true, true, true, true, true, true, true, false, false, false, false] rfl ?_
                  exact am_mem (by rw [fg_s]; simp only [filv, if_pos e9]) (ih (m - (r + 1)) (by omega) (r + 1) _ rfl (by omega))
                · skip
                  exact absurd c82 c114
              · skip
                exact absurd c82 c101
            · skip
              refine am_iload fx dX7_findOdds_85 rfl ?_
              refine am_ineg fx dX7_findOdds_87 ?_
              refine am_goto fx 93 dX7_findOdds_88 (by decide) ?_
              refine am_topi (show _ = (fun r => ab ((fun r => cs a (od r)) r - (fun r => cs b (od r)) r)) r from (show -(cs a (od r) - cs b (od r)) = ab (cs a (od r) - cs b (od r)) by unfold ab; rw [if_neg c82, Int32.zero_sub])) ?_
              refine am_iast (j := (cnt (neB (fun r => cs a (od r)) (fun r => cs b (od r))) r)) fx dX7_findOdds_93 (sa7_23 hb2) rfl (by omega) (by decide) ?_
              refine am_aload_n fx dX7_findOdds_94 rfl ?_
              refine am_getR fx dX7_findOdds_95 fkX7_36 (by decide) (by decide) rfl (so7 hb2) (rf7_24 hb2) ?_
              refine am_iload_n fx dX7_findOdds_98 rfl ?_
              refine am_iload fx dX7_findOdds_99 rfl ?_
              refine am_if_ge fx 108 dX7_findOdds_101 (by decide) (fun c101 => ?_) (fun c101 => ?_)
              · skip
                exact absurd c101 c82
              · skip
                refine am_iconst (v := 1) fx dX7_findOdds_104 (by decide) ?_
                refine am_goto fx 109 dX7_findOdds_105 (by decide) ?_
                refine am_topi (show _ = (fun r => bz ((fun r => cs a (od r)) r < (fun r => cs b (od r)) r)) r from bz_t (hsb.1.mp (Int32.not_le.mp c82))) ?_
                refine am_zast (j := (cnt (neB (fun r => cs a (od r)) (fun r => cs b (od r))) r)) fx dX7_findOdds_109 (sa7_24 hb2) rfl (by omega) (by decide) (by first | exact Or.inl rfl | exact Or.inr rfl | exact bz_01) ?_
                refine am_iload fx dX7_findOdds_110 rfl ?_
                refine am_iload fx dX7_findOdds_112 rfl ?_
                refine am_if_ge fx 121 dX7_findOdds_114 (by decide) (fun c114 => ?_) (fun c114 => ?_)
                · skip
                  exact absurd c114 c82
                · skip
                  refine am_iconst (v := 1) fx dX7_findOdds_117 (by decide) ?_
                  refine am_goto fx 122 dX7_findOdds_118 (by decide) ?_
                  refine am_iadd fx dX7_findOdds_122 ?_
                  refine am_istore fx dX7_findOdds_123 (by decide) rfl ?_
                  first | refine am_iinc fx dX7_findOdds_125 rfl (nI_inc _) (by decide) rfl ?_ | refine am_iinc fx dX7_findOdds_125 rfl rfl (by decide) rfl ?_
                  first | refine am_iinc fx dX7_findOdds_128 rfl (nI_inc _) (by decide) rfl ?_ | refine am_iinc fx dX7_findOdds_128 rfl rfl (by decide) rfl ?_
                  refine am_goto fx 36 dX7_findOdds_131 (by decide) ?_
                  have e9 : (neB (fun r => cs a (od r)) (fun r => cs b (od r))) r = true := by simp [c72]
                  rw [← cnt_t (b := (neB (fun r => cs a (od r)) (fun r => cs b (od r)))) (r := r) e9]
                  refine am_sub [true, true, true, true, true, true, true, false, false, false, false] rfl ?_
                  exact am_mem (by rw [fg_s]; simp only [filv, if_pos e9]) (ih (m - (r + 1)) (by omega) (r + 1) _ rfl (by omega))
    refine am_sub [true, true, true, true, true, true, true, false, false, false, false] rfl ?_
    exact am_mem (show μ = (mm_fI (mm_fI μ 53 (filv (neB (fun r => cs a (od r)) (fun r => cs b (od r))) (fun r => ab ((fun r => cs a (od r)) r - (fun r => cs b (od r)) r)) (mm_I μ 53) 0)) 54 (filv (neB (fun r => cs a (od r)) (fun r => cs b (od r))) (fun r => bz ((fun r => cs a (od r)) r < (fun r => cs b (od r)) r)) (mm_I μ 54) 0)) by simp only [filv]; rw [fI_self, fI_self]) (lp36 _ 0 _ rfl (Nat.zero_le _))
