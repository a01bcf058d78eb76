/-! the odds' ways, as naturals -/
def asgN (h : Nat → Nat) (w m : Nat) : Nat → Nat := fun s => if w ≤ s ∧ s ≤ m then h s + h (s - w) else h s
def wyN (kd : Int32) (g : Nat → Int32) (n : Nat) : Nat → Nat → Nat
  | 0 => fun s => if s = 0 then 1 else 0
  | k + 1 => asgN (wyN kd g n k) (odw kd g n k) (mst kd g n (k + 1))
def smN (h : Nat → Nat) (lo : Nat) : Nat → Nat
  | 0 => 0
  | d + 1 => smN h lo d + h (lo + d)
theorem wy_N (kd : Int32) (g : Nat → Int32) (n : Nat) : ∀ k, wy kd g n k = fun s => lN (wyN kd g n k s)
  | 0 => by
    funext s
    simp only [wy, wyN]
    by_cases h : s = 0
    · rw [if_pos h, if_pos h]; rfl
    · rw [if_neg h, if_neg h]; rfl
  | k + 1 => by
    funext s
    simp only [wy, wyN, asg, asgN, wy_N kd g n k]
    split
    · rw [lN_add]
    · rfl
theorem pw_N : ∀ n, pw n = lN (2 ^ n)
  | 0 => rfl
  | n + 1 => by
    rw [pw, pw_N n, Nat.pow_succ]
    exact lN_mul (2 ^ n) 2
theorem smL_N (h : Nat → Nat) (lo : Nat) : ∀ d, smL (fun s => lN (h s)) lo d = lN (smN h lo d)
  | 0 => rfl
  | d + 1 => by simp only [smL, smN]; rw [smL_N h lo d, lN_add]
theorem smN_split (h : Nat → Nat) (lo d : Nat) : ∀ e, smN h lo (d + e) = smN h lo d + smN h (lo + d) e
  | 0 => rfl
  | e + 1 => by
    have := smN_split h lo d e
    rw [← Nat.add_assoc d e 1]
    simp only [smN]
    rw [this, Nat.add_assoc lo d e]
    omega
theorem smN_zero {h : Nat → Nat} {lo : Nat} (hz : ∀ t, lo ≤ t → h t = 0) : ∀ d, smN h lo d = 0
  | 0 => rfl
  | d + 1 => by simp only [smN]; rw [smN_zero hz d, hz _ (by omega)]
theorem smN_asg (h : Nat → Nat) (w m : Nat) : ∀ d, d ≤ m + 1 → smN (asgN h w m) 0 d = smN h 0 d + smN h 0 (d - w)
  | 0, _ => by rw [Nat.zero_sub]; rfl
  | d + 1, hd => by
    have ih := smN_asg h w m d (by omega)
    simp only [smN]
    rw [ih]
    unfold asgN
    rw [Nat.zero_add]
    by_cases hw : w ≤ d
    · rw [if_pos ⟨hw, by omega⟩, show d + 1 - w = (d - w) + 1 by omega]
      simp only [smN]
      rw [Nat.zero_add]
      omega
    · rw [if_neg (fun z => hw z.1), show d + 1 - w = 0 by omega, show d - w = 0 by omega]
      simp only [smN]
      omega
theorem wyN_hi (kd : Int32) (g : Nat → Int32) (n : Nat) : ∀ k s, mst kd g n k < s → wyN kd g n k s = 0
  | 0, s, h => by simp only [mst] at h; simp only [wyN]; rw [if_neg (by omega)]
  | k + 1, s, h => by
    simp only [wyN, asgN]
    rw [if_neg (by omega)]
    exact wyN_hi kd g n k s (by simp only [mst] at h; omega)
theorem wyN_all (kd : Int32) (g : Nat → Int32) (n : Nat) : ∀ k, smN (wyN kd g n k) 0 (mst kd g n k + 1) = 2 ^ k
  | 0 => by simp [mst, smN, wyN]
  | k + 1 => by
    have ih := wyN_all kd g n k
    have e : mst kd g n (k + 1) = mst kd g n k + odw kd g n k := rfl
    rw [show wyN kd g n (k + 1) = asgN (wyN kd g n k) (odw kd g n k) (mst kd g n (k + 1)) from rfl, smN_asg _ _ _ _ (Nat.le_refl _), e, show mst kd g n k + odw kd g n k + 1 - odw kd g n k = mst kd g n k + 1 by omega, show mst kd g n k + odw kd g n k + 1 = (mst kd g n k + 1) + odw kd g n k by omega, smN_split, ih, smN_zero (fun t ht => wyN_hi kd g n k t (by omega)), Nat.pow_succ]
    omega
def upNN (kd : Int32) (g f : Nat → Int32) (n : Nat) : Nat := smN (wyN kd g n n) (rch kd g f n n) (mst kd g n n + 1 - rch kd g f n n)
theorem upN_N (kd : Int32) (g f : Nat → Int32) (n : Nat) : upN kd g f n = lN (upNN kd g f n) := by
  unfold upN upNN
  rw [wy_N, smL_N]
theorem upNN_le (kd : Int32) (g f : Nat → Int32) (n : Nat) : upNN kd g f n ≤ 2 ^ n := by
  have h1 := wyN_all kd g n n
  have h2 := rch_le kd g f n n
  have h3 := smN_split (wyN kd g n n) 0 (rch kd g f n n) (mst kd g n n + 1 - rch kd g f n n)
  rw [show rch kd g f n n + (mst kd g n n + 1 - rch kd g f n n) = mst kd g n n + 1 by omega, h1, Nat.zero_add] at h3
  unfold upNN
  omega
def odUN (kd : Int32) (ca cb : Nat → Int32) (m : Nat) : Nat := upNN kd (gpz ca cb m) (fpz ca cb m) (odN ca cb m)
theorem odU_N (kd : Int32) (ca cb : Nat → Int32) (m : Nat) : odU kd ca cb m = lN (odUN kd ca cb m) := upN_N _ _ _ _
theorem odUN_le (kd : Int32) (ca cb : Nat → Int32) (m : Nat) : odUN kd ca cb m ≤ 2 ^ odN ca cb m := upNN_le _ _ _ _
theorem odN_le (ca cb : Nat → Int32) (m : Nat) : odN ca cb m ≤ m := cnt_le _ _
theorem p2_lt {n : Nat} (h : n ≤ 24) : 2 ^ n < 2 ^ 26 := Nat.pow_lt_pow_right (by decide) (by omega)
theorem rg_le {x : Int32} {n : Nat} (h : 0 ≤ x ∧ x ≤ nI n) (hn : n < 2 ^ 31) : ∃ j, j ≤ n ∧ x = nI j := by
  obtain ⟨j, hj, rfl⟩ := nI_of (Int32.not_lt.mpr h.1)
  exact ⟨j, (nI_leI hj hn).mp h.2, rfl⟩
set_option maxRecDepth 100000 in
set_option maxHeartbeats 4000000 in
theorem ct_X6_runN0 {E : am_E} {μ : am_M} (hb : Bs μ) (hcu : mm_R μ 1 4 = none) : am_Ct E yX6_run cX6_run 1 (some .int) rmX6_run [.ref 1] μ (fun v μ' => v = some (.int (-3)) ∧ μ = μ') := by
  refine am_Ct.of (ls := [some (.ref 1)]) (by decide) (Nat.le_of_ble_eq_true rfl) rfl (fun C fx hnm => ?_)
  refine am_aload_n fx dX6_run_0 rfl ?_
  refine am_getN fx dX6_run_1 fkX6_39 (by decide) (by decide) rfl (so6 hb) hcu ?_
  refine am_ifnonnullN fx dX6_run_4 ?_
  refine am_bipush (v := (-3)) fx dX6_run_7 (by decide) ?_
  refine am_goto fx 19 dX6_run_9 (by decide) ?_
  exact am_iret fx dX6_run_19 ⟨rfl, rfl⟩
set_option maxRecDepth 100000 in
set_option maxHeartbeats 4000000 in
theorem ct_X6_runN {E : am_E} {μ : am_M} (hb : Bs μ) {q L : Nat} (hr : Rc μ q L) {En Rd : Nat} (ha : Ra μ q En Rd) (hcu : mm_R μ 1 4 = some (q + 1)) {S N : Nat} (ht : Tb μ S N) (hno : ¬ mm_I μ (q + 1) 14 = 0 ∨ co μ S N (mm_I μ (q + 1) 11) (if 0 ≤ nI Rd ∧ nI Rd < nI L then mm_I μ (q + 19) (nI Rd).toNatClampNeg else -1) = -1) : am_Ct E yX6_run cX6_run 1 (some .int) rmX6_run [.ref 1] μ (fun v μ' => v = some (.int (-3)) ∧ μ = μ') := by
  refine am_Ct.of (ls := [some (.ref 1)]) (by decide) (Nat.le_of_ble_eq_true rfl) rfl (fun C fx hnm => ?_)
  refine am_aload_n fx dX6_run_0 rfl ?_
  refine am_getR fx dX6_run_1 fkX6_39 (by decide) (by decide) rfl (so6 hb) hcu ?_
  refine am_ifnonnull fx 12 dX6_run_4 (by decide) ?_
  refine am_aload_n fx dX6_run_12 rfl ?_
  refine am_getR fx dX6_run_13 fkX6_39 (by decide) (by decide) rfl (so6 hb) hcu ?_
  refine am_callV fx dX6_run_16 mkX6_110 (ct_X2_runNextN hb hr ha ht hno) (so2 hr) ⟨by decide, rfl⟩ rfl (Nat.le_of_ble_eq_true rfl) ⟨by decide, by decide⟩ ⟨Nat.le_of_ble_eq_true rfl, Nat.le_of_ble_eq_true rfl⟩ rfl ?_
  rintro _ _ ⟨rfl, rfl⟩
  exact am_iret fx dX6_run_19 ⟨rfl, rfl⟩
set_option maxRecDepth 100000 in
set_option maxHeartbeats 4000000 in
theorem ct_X6_run {E : am_E} {μ : am_M} (hb : Bs μ) {q L : Nat} (hr : Rc μ q L) {En Rd : Nat} (ha : Ra μ q En Rd) (hcu : mm_R μ 1 4 = some (q + 1)) {S N : Nat} (ht : Tb μ S N) {rem least nx io rn : Nat} {c : Int32} (hrem : mm_I μ (q + 1) 10 = nI rem) (hr12 : rem ≤ 12) (hls : mm_I μ q 4 = nI least) (hl12 : least ≤ 12) (hw : mm_I μ (q + 1) 14 = 0) (hnx : mm_I μ (q + 1) 11 = nI nx) (hxE : nx < En) (hES : En ≤ S) (hxl : mm_I μ (q + 15) nx = 0) (hRd : Rd < L) (hio : mm_I μ (q + 19) Rd = nI io) (hioN : io < N) (hc : mm_I μ (4 + nx) io = c) (hct : ¬ c = -1) (hrn : mm_I μ (q + 1) 13 = nI rn) (hrn2 : rn < 65536) (hran : ∀ s, s < En → mm_I μ (q + 15) s = 0 → mm_I μ (q + 16) s = nI (if s < nx then Rd + 1 else Rd)) : am_Ct E yX6_run cX6_run 1 (some .int) rmX6_run [.ref 1] μ (fun v μ' => v = some (.int (nI (rn + 1))) ∧ (((frst (fun s => decide (mm_I μ (q + 15) s = 0)) En (nx + 1)) ≠ none ∧ μ' = rnM μ q nx Rd rn En c) ∨ ((frst (fun s => decide (mm_I μ (q + 15) s = 0)) En (nx + 1)) = none ∧ EndP (rnM μ q nx Rd rn En c) μ' q L En Rd rem least))) := by
  refine am_Ct.of (ls := [some (.ref 1)]) (by decide) (Nat.le_of_ble_eq_true rfl) rfl (fun C fx hnm => ?_)
  refine am_aload_n fx dX6_run_0 rfl ?_
  refine am_getR fx dX6_run_1 fkX6_39 (by decide) (by decide) rfl (so6 hb) hcu ?_
  refine am_ifnonnull fx 12 dX6_run_4 (by decide) ?_
  refine am_aload_n fx dX6_run_12 rfl ?_
  refine am_getR fx dX6_run_13 fkX6_39 (by decide) (by decide) rfl (so6 hb) hcu ?_
  refine am_callV fx dX6_run_16 mkX6_110 (ct_X2_runNext hb hr ha ht hrem hr12 hls hl12 hw hnx hxE hES hxl hRd hio hioN hc hct hrn hrn2 hran) (so2 hr) ⟨by decide, rfl⟩ rfl (Nat.le_of_ble_eq_true rfl) ⟨by decide, by decide⟩ ⟨Nat.le_of_ble_eq_true rfl, Nat.le_of_ble_eq_true rfl⟩ rfl ?_
  rintro _ ν ⟨rfl, hh⟩
  exact am_iret fx dX6_run_19 ⟨rfl, hh⟩
set_option maxRecDepth 100000 in
set_option maxHeartbeats 4000000 in
theorem ct_X6_raceOfN {E : am_E} {μ : am_M} (hb : Bs μ) (hcu : mm_R μ 1 4 = none) (x : Int32) : am_Ct E yX6_raceOf cX6_raceOf 2 (some .int) rmX6_raceOf [.ref 1, .int x] μ (fun v μ' => v = some (.int (if 0 ≤ x ∧ x ≤ 4 then -3 else -2)) ∧ μ = μ') := by
  refine am_Ct.of (ls := [some (.ref 1), some (.int x)]) (by decide) (Nat.le_of_ble_eq_true rfl) rfl (fun C fx hnm => ?_)
  refine am_iload_n fx dX6_raceOf_0 rfl ?_
  refine am_iconst (v := 0) fx dX6_raceOf_1 (by decide) ?_
  refine am_iconst (v := 4) fx dX6_raceOf_2 (by decide) ?_
  refine am_callS fx dX6_raceOf_3 mkX6_47 (ct_X6_isWithin hb _ _ _) rfl (Nat.le_of_ble_eq_true rfl) ⟨by decide, by decide⟩ ⟨Nat.le_of_ble_eq_true rfl, Nat.le_of_ble_eq_true rfl⟩ rfl ?_
  rintro _ _ ⟨rfl, rfl⟩
  refine am_if_ne fx 12 dX6_raceOf_6 (by decide) (fun c6 => ?_) (fun c6 => ?_)
  · try simp (disch := omega) only [bz_0, Classical.not_not, Int32.not_le, Int32.not_lt, Nat.not_le, Nat.not_lt, nI_leI, nI_ltI, nI_eq, nI_le0, nI_lt0] at c6
    refine am_aload_n fx dX6_raceOf_12 rfl ?_
    refine am_getN fx dX6_raceOf_13 fkX6_39 (by decide) (by decide) rfl (so6 hb) hcu ?_
    refine am_ifnonnullN fx dX6_raceOf_16 ?_
    refine am_bipush (v := (-3)) fx dX6_raceOf_19 (by decide) ?_
    exact am_iret fx dX6_raceOf_21 ⟨by rw [if_pos c6], rfl⟩
  · try simp (disch := omega) only [bz_0, Classical.not_not, Int32.not_le, Int32.not_lt, Nat.not_le, Nat.not_lt, nI_leI, nI_ltI, nI_eq, nI_le0, nI_lt0] at c6
    refine am_bipush (v := (-2)) fx dX6_raceOf_9 (by decide) ?_
    exact am_iret fx dX6_raceOf_11 ⟨by rw [if_neg c6], rfl⟩
set_option maxRecDepth 100000 in
set_option maxHeartbeats 4000000 in
theorem ct_X6_raceOf {E : am_E} {μ : am_M} (hb : Bs μ) {q L : Nat} (hr : Rc μ q L) {En Rd : Nat} (ha : Ra μ q En Rd) (hcu : mm_R μ 1 4 = some (q + 1)) (x : Int32) : am_Ct E yX6_raceOf cX6_raceOf 2 (some .int) rmX6_raceOf [.ref 1, .int x] μ (fun v μ' => (¬ (0 ≤ x ∧ x ≤ 4) ∧ v = some (.int (-2)) ∧ μ = μ') ∨ ((0 ≤ x ∧ x ≤ 4) ∧ ((x = nI 0 ∧ v = some (.int (mm_I μ (q + 1) 14)) ∧ μ = μ') ∨ (x = nI 1 ∧ v = some (.int (nI Rd)) ∧ μ = μ') ∨ (x = nI 2 ∧ v = some (.int (mm_I μ (q + 1) 13)) ∧ μ = μ') ∨ (x = nI 3 ∧ ∃ A : List Nat, v = some (.int (enO (-1) A.head?)) ∧ Sm (Sar q) μ μ' ∧ A.Pairwise (lexR (rkF μ q Rd En)) ∧ (∀ x, x ∈ A ↔ x < En ∧ mm_I μ (q + 15) x = 0) ∧ A.length ≤ En) ∨ (x = nI 4 ∧ v = some (.int (nI En - mm_I μ (q + 1) 10)) ∧ μ = μ')))) := by
  refine am_Ct.of (ls := [some (.ref 1), some (.int x)]) (by decide) (Nat.le_of_ble_eq_true rfl) rfl (fun C fx hnm => ?_)
  refine am_iload_n fx dX6_raceOf_0 rfl ?_
  refine am_iconst (v := 0) fx dX6_raceOf_1 (by decide) ?_
  refine am_iconst (v := 4) fx dX6_raceOf_2 (by decide) ?_
  refine am_callS fx dX6_raceOf_3 mkX6_47 (ct_X6_isWithin hb _ _ _) rfl (Nat.le_of_ble_eq_true rfl) ⟨by decide, by decide⟩ ⟨Nat.le_of_ble_eq_true rfl, Nat.le_of_ble_eq_true rfl⟩ rfl ?_
  rintro _ _ ⟨rfl, rfl⟩
  refine am_if_ne fx 12 dX6_raceOf_6 (by decide) (fun c6 => ?_) (fun c6 => ?_)
  · try simp (disch := omega) only [bz_0, Classical.not_not, Int32.not_le, Int32.not_lt, Nat.not_le, Nat.not_lt, nI_leI, nI_ltI, nI_eq, nI_le0, nI_lt0] at c6
    refine am_aload_n fx dX6_raceOf_12 rfl ?_
    refine am_getR fx dX6_raceOf_13 fkX6_39 (by decide) (by decide) rfl (so6 hb) hcu ?_
    refine am_ifnonnull fx 22 dX6_raceOf_16 (by decide) ?_
    refine am_iload_n fx dX6_raceOf_22 rfl ?_
    obtain ⟨j, hj, rfl⟩ := rg_le (n := 4) c6 (by decide)
    rcases (show j = 0 ∨ j = 1 ∨ j = 2 ∨ j = 3 ∨ j = 4 by omega) with rfl | rfl | rfl | rfl | rfl
    · refine am_tabIn fx 52 dX6_raceOf_23 (by decide) (by decide) rfl (by decide) ?_
      refine am_aload_n fx dX6_raceOf_52 rfl ?_
      refine am_getR fx dX6_raceOf_53 fkX6_39 (by decide) (by decide) rfl (so6 hb) hcu ?_
      refine am_getI fx dX6_raceOf_56 fkX6_97 (by decide) (by decide) rfl (so2 hr) rfl ?_
      exact am_iret fx dX6_raceOf_59 (Or.inr ⟨c6, Or.inl ⟨rfl, rfl, rfl⟩⟩)
    · refine am_tabIn fx 60 dX6_raceOf_23 (by decide) (by decide) rfl (by decide) ?_
      refine am_aload_n fx dX6_raceOf_60 rfl ?_
      refine am_getR fx dX6_raceOf_61 fkX6_39 (by decide) (by decide) rfl (so6 hb) hcu ?_
      refine am_getI fx dX6_raceOf_64 fkX6_103 (by decide) (by decide) rfl (so2 hr) ha.2.1 ?_
      exact am_iret fx dX6_raceOf_67 (Or.inr ⟨c6, Or.inr (Or.inl ⟨rfl, rfl, rfl⟩)⟩)
    · refine am_tabIn fx 68 dX6_raceOf_23 (by decide) (by decide) rfl (by decide) ?_
      refine am_aload_n fx dX6_raceOf_68 rfl ?_
      refine am_getR fx dX6_raceOf_69 fkX6_39 (by decide) (by decide) rfl (so6 hb) hcu ?_
      refine am_getI fx dX6_raceOf_72 fkX6_119 (by decide) (by decide) rfl (so2 hr) rfl ?_
      exact am_iret fx dX6_raceOf_75 (Or.inr ⟨c6, Or.inr (Or.inr (Or.inl ⟨rfl, rfl, rfl⟩))⟩)
    · refine am_tabIn fx 76 dX6_raceOf_23 (by decide) (by decide) rfl (by decide) ?_
      refine am_aload_n fx dX6_raceOf_76 rfl ?_
      refine am_getR fx dX6_raceOf_77 fkX6_39 (by decide) (by decide) rfl (so6 hb) hcu ?_
      refine am_callV fx dX6_raceOf_80 mkX6_122 (ct_X2_leader hb hr ha) (so2 hr) ⟨by decide, rfl⟩ rfl (Nat.le_of_ble_eq_true rfl) ⟨by decide, by decide⟩ ⟨Nat.le_of_ble_eq_true rfl, Nat.le_of_ble_eq_true rfl⟩ rfl ?_
      rintro _ ν ⟨A, rfl, hA⟩
      exact am_iret fx dX6_raceOf_83 (Or.inr ⟨c6, Or.inr (Or.inr (Or.inr (Or.inl ⟨rfl, A, rfl, hA⟩)))⟩)
    · refine am_tabOut fx 84 dX6_raceOf_23 (by decide) (by decide) ?_
      refine am_aload_n fx dX6_raceOf_84 rfl ?_
      refine am_getR fx dX6_raceOf_85 fkX6_39 (by decide) (by decide) rfl (so6 hb) hcu ?_
      refine am_getI fx dX6_raceOf_88 fkX6_94 (by decide) (by decide) rfl (so2 hr) ha.1 ?_
      refine am_aload_n fx dX6_raceOf_91 rfl ?_
      refine am_getR fx dX6_raceOf_92 fkX6_39 (by decide) (by decide) rfl (so6 hb) hcu ?_
      refine am_getI fx dX6_raceOf_95 fkX6_113 (by decide) (by decide) rfl (so2 hr) rfl ?_
      refine am_isub fx dX6_raceOf_98 ?_
      exact am_iret fx dX6_raceOf_99 (Or.inr ⟨c6, Or.inr (Or.inr (Or.inr (Or.inr ⟨rfl, rfl, rfl⟩)))⟩)
  · try simp (disch := omega) only [bz_0, Classical.not_not, Int32.not_le, Int32.not_lt, Nat.not_le, Nat.not_lt, nI_leI, nI_ltI, nI_eq, nI_le0, nI_lt0] at c6
    refine am_bipush (v := (-2)) fx dX6_raceOf_9 (by decide) ?_
    exact am_iret fx dX6_raceOf_11 (Or.inl ⟨c6, rfl, rfl⟩)
set_option maxRecDepth 100000 in
set_option maxHeartbeats 4000000 in
theorem ct_X6_oddsN {E : am_E} {μ : am_M} (hb : Bs μ) (hcu : mm_R μ 1 4 = none) (a b side : Int32) : am_Ct E yX6_odds cX6_odds 4 (some .long) rmX6_odds [.ref 1, .int a, .int b, .int side] μ (fun v μ' => v = some (.long (-9223372036854775808)) ∧ μ = μ') := by
  refine am_Ct.of (ls := [some (.ref 1), some (.int a), some (.int b), some (.int side)]) (by decide) (Nat.le_of_ble_eq_true rfl) rfl (fun C fx hnm => ?_)
  refine am_aload_n fx dX6_odds_0 rfl ?_
  refine am_getN fx dX6_odds_1 fkX6_39 (by decide) (by decide) rfl (so6 hb) hcu ?_
  refine am_ifnullN fx 38 dX6_odds_4 (by decide) ?_
  refine am_ldc2 fx dX6_odds_38 kdX6_138 ?_
  exact am_lret fx dX6_odds_41 ⟨rfl, rfl⟩
set_option maxRecDepth 100000 in
set_option maxHeartbeats 4000000 in
theorem ct_X6_odds {E : am_E} {μ : am_M} (hb : Bs μ) {q L : Nat} (hr : Rc μ q L) {En Rd : Nat} (ha : Ra μ q En Rd) (hcu : mm_R μ 1 4 = some (q + 1)) (a b side : Int32) {rn : Nat → Nat} (hrn : ∀ s, s < En → mm_I μ (q + 16) s = nI (rn s) ∧ rn s ≤ 24) : am_Ct E yX6_odds cX6_odds 4 (some .long) rmX6_odds [.ref 1, .int a, .int b, .int side] μ (fun v μ' => (¬ ((0 ≤ a ∧ a < nI En) ∧ (0 ≤ b ∧ b < nI En) ∧ (0 ≤ side ∧ side ≤ 1)) ∧ v = some (.long (-9223372036854775808)) ∧ μ = μ') ∨ (((0 ≤ a ∧ a < nI En) ∧ (0 ≤ b ∧ b < nI En) ∧ (0 ≤ side ∧ side ≤ 1)) ∧ ∃ a' b' : Nat, a = nI a' ∧ b = nI b' ∧ a' < En ∧ b' < En ∧ Sm Sod μ μ' ∧ v = some (.long (lN ((if side = 0 then odUN (mm_I μ q 0) (tkn μ q a') (tkn μ q b') (min Rd (min (rn a') (rn b'))) else 2 ^ odN (tkn μ q a') (tkn μ q b') (min Rd (min (rn a') (rn b')))) / Nat.gcd (odUN (mm_I μ q 0) (tkn μ q a') (tkn μ q b') (min Rd (min (rn a') (rn b')))) (2 ^ odN (tkn μ q a') (tkn μ q b') (min Rd (min (rn a') (rn b'))))))))) := by
  refine am_Ct.of (ls := [some (.ref 1), some (.int a), some (.int b), some (.int side)]) (by decide) (Nat.le_of_ble_eq_true rfl) rfl (fun C fx hnm => ?_)
  have hE := ha.e
  have hR := ha.r
  refine am_aload_n fx dX6_odds_0 rfl ?_
  refine am_getR fx dX6_odds_1 fkX6_39 (by decide) (by decide) rfl (so6 hb) hcu ?_
  refine am_ifnull fx dX6_odds_4 ?_
  refine am_aload_n fx dX6_odds_7 rfl ?_
  refine am_getR fx dX6_odds_8 fkX6_39 (by decide) (by decide) rfl (so6 hb) hcu ?_
  refine am_iload_n fx dX6_odds_11 rfl ?_
  refine am_callV fx dX6_odds_12 mkX6_131 (ct_X2_isEntered hb hr ha _) (so2 hr) ⟨by decide, rfl⟩ rfl (Nat.le_of_ble_eq_true rfl) ⟨by decide, by decide⟩ ⟨Nat.le_of_ble_eq_true rfl, Nat.le_of_ble_eq_true rfl⟩ rfl ?_
  rintro _ _ ⟨rfl, rfl⟩
  refine am_if_eq fx 38 dX6_odds_15 (by decide) (fun c15 => ?_) (fun c15 => ?_)
  · try simp (disch := omega) only [bz_0, Classical.not_not, Int32.not_le, Int32.not_lt, Nat.not_le, Nat.not_lt, nI_leI, nI_ltI, nI_eq, nI_le0, nI_lt0] at c15
    refine am_ldc2 fx dX6_odds_38 kdX6_138 ?_
    exact am_lret fx dX6_odds_41 (Or.inl ⟨fun h => c15 h.1, rfl, rfl⟩)
  · try simp (disch := omega) only [bz_0, Classical.not_not, Int32.not_le, Int32.not_lt, Nat.not_le, Nat.not_lt, nI_leI, nI_ltI, nI_eq, nI_le0, nI_lt0] at c15
    refine am_aload_n fx dX6_odds_18 rfl ?_
    refine am_getR fx dX6_odds_19 fkX6_39 (by decide) (by decide) rfl (so6 hb) hcu ?_
    refine am_iload_n fx dX6_odds_22 rfl ?_
    refine am_callV fx dX6_odds_23 mkX6_131 (ct_X2_isEntered hb hr ha _) (so2 hr) ⟨by decide, rfl⟩ rfl (Nat.le_of_ble_eq_true rfl) ⟨by decide, by decide⟩ ⟨Nat.le_of_ble_eq_true rfl, Nat.le_of_ble_eq_true rfl⟩ rfl ?_
    rintro _ _ ⟨rfl, rfl⟩
    refine am_if_eq fx 38 dX6_odds_26 (by decide) (fun c26 => ?_) (fun c26 => ?_)
    · try simp (disch := omega) only [bz_0, Classical.not_not, Int32.not_le, Int32.not_lt, Nat.not_le, Nat.not_lt, nI_leI, nI_ltI, nI_eq, nI_le0, nI_lt0] at c26
      refine am_ldc2 fx dX6_odds_38 kdX6_138 ?_
      exact am_lret fx dX6_odds_41 (Or.inl ⟨fun h => c26 h.2.1, rfl, rfl⟩)
    · try simp (disch := omega) only [bz_0, Classical.not_not, Int32.not_le, Int32.not_lt, Nat.not_le, Nat.not_lt, nI_leI, nI_ltI, nI_eq, nI_le0, nI_lt0] at c26
      refine am_iload_n fx dX6_odds_29 rfl ?_
      refine am_iconst (v := 0) fx dX6_odds_30 (by decide) ?_
      refine am_iconst (v := 1) fx dX6_odds_31 (by decide) ?_
      refine am_callS fx dX6_odds_32 mkX6_47 (ct_X6_isWithin hb _ _ _) rfl (Nat.le_of_ble_eq_true rfl) ⟨by decide, by decide⟩ ⟨Nat.le_of_ble_eq_true rfl, Nat.le_of_ble_eq_true rfl⟩ rfl ?_
      rintro _ _ ⟨rfl, rfl⟩
      refine am_if_ne fx 42 dX6_odds_35 (by decide) (fun c35 => ?_) (fun c35 => ?_)
      · try simp (disch := omega) only [bz_0, Classical.not_not, Int32.not_le, Int32.not_lt, Nat.not_le, Nat.not_lt, nI_leI, nI_ltI, nI_eq, nI_le0, nI_lt0] at c35
        have hab : ((0 ≤ a ∧ a < nI En) ∧ (0 ≤ b ∧ b < nI En) ∧ (0 ≤ side ∧ side ≤ 1)) := ⟨c15, c26, c35⟩
        obtain ⟨a', ha', rfl⟩ := nI_rg2 c15 (by omega)
        obtain ⟨b', hb', rfl⟩ := nI_rg2 c26 (by omega)
        refine am_aload_n fx dX6_odds_42 rfl ?_
        refine am_getR fx dX6_odds_43 fkX6_39 (by decide) (by decide) rfl (so6 hb) hcu ?_
        refine am_iload_n fx dX6_odds_46 rfl ?_
        refine am_iload_n fx dX6_odds_47 rfl ?_
        refine am_callV fx dX6_odds_48 mkX6_140 (ct_X2_countOdds hb hr ha a' b' (rn a') (rn b') ha' hb' (hrn a' ha').1 (hrn b' hb').1 (hrn a' ha').2 (hrn b' hb').2) (so2 hr) ⟨by decide, rfl⟩ rfl (Nat.le_of_ble_eq_true rfl) ⟨by decide, by decide⟩ ⟨Nat.le_of_ble_eq_true rfl, Nat.le_of_ble_eq_true rfl⟩ rfl ?_
        rintro _ ν ⟨rfl, hSm, hlo, hup⟩
        have hb2 : Bs ν := hb.fr hSm.1
        rw [odU_N] at hup
        rw [pw_N] at hlo
        have hn24 := odN_le (tkn μ q a') (tkn μ q b') (min Rd (min (rn a') (rn b')))
        have hp26 := p2_lt (n := odN (tkn μ q a') (tkn μ q b') (min Rd (min (rn a') (rn b')))) (by omega)
        have hUle := odUN_le (mm_I μ q 0) (tkn μ q a') (tkn μ q b') (min Rd (min (rn a') (rn b')))
        refine am_aload_n fx dX6_odds_51 rfl ?_
        refine am_getR fx dX6_odds_52 fkX6_21 (by decide) (by decide) rfl (so6 hb2) (rf6_1 hb2) ?_
        refine am_getL fx dX6_odds_55 fkX6_144 (by decide) (by decide) rfl (so0 hb2) hup ?_
        refine am_aload_n fx dX6_odds_58 rfl ?_
        refine am_getR fx dX6_odds_59 fkX6_21 (by decide) (by decide) rfl (so6 hb2) (rf6_1 hb2) ?_
        refine am_getL fx dX6_odds_62 fkX6_148 (by decide) (by decide) rfl (so0 hb2) hlo ?_
        refine am_iload_n fx dX6_odds_65 rfl ?_
        refine am_callS fx dX6_odds_66 mkX6_151 (ct_X6_lowestTerms (by omega) hp26 (Nat.two_pow_pos _) _) rfl (Nat.le_of_ble_eq_true rfl) ⟨by decide, by decide⟩ ⟨Nat.le_of_ble_eq_true rfl, Nat.le_of_ble_eq_true rfl⟩ rfl ?_
        rintro _ _ ⟨rfl, rfl⟩
        exact am_lret fx dX6_odds_69 (Or.inr ⟨hab, a', b', rfl, rfl, ha', hb', hSm, rfl⟩)
      · try simp (disch := omega) only [bz_0, Classical.not_not, Int32.not_le, Int32.not_lt, Nat.not_le, Nat.not_lt, nI_leI, nI_ltI, nI_eq, nI_le0, nI_lt0] at c35
        refine am_ldc2 fx dX6_odds_38 kdX6_138 ?_
        exact am_lret fx dX6_odds_41 (Or.inl ⟨fun h => c35 h.2.2, rfl, rfl⟩)
def bsF (μ : am_M) (S N i : Nat) : Option Nat := am1 (fun s => decide (mm_I μ 16 s = nI N)) (fun s => mm_I μ (4 + s) i) S
def nrF (μ : am_M) (N i : Nat) : Option Nat := am1 (fun j => decide (j ≠ i) && decide (¬ mm_I μ 20 j = 0)) (fun j => di μ j i) N
def pkF (μ : am_M) (S N i : Nat) : Option Nat := match nrF μ N i with
  | none => none
  | some j => bsF μ S N j
theorem pkF_n {μ : am_M} {S N i : Nat} (h : nrF μ N i = none) : pkF μ S N i = none := by unfold pkF; rw [h]
theorem pkF_s {μ : am_M} {S N i j : Nat} (h : nrF μ N i = some j) : pkF μ S N i = bsF μ S N j := by unfold pkF; rw [h]
theorem nrF_lt {μ : am_M} {N i j : Nat} (h : nrF μ N i = some j) : j < N := (am1_lt h).1
/-- what a table holds: costs below the greatest int, distances too -/
def Tv (μ : am_M) (S N : Nat) : Prop := (∀ s i, s < S → i < N → mm_I μ (4 + s) i < 2147483647) ∧ (∀ i j, i < N → j < N → di μ i j < 2147483647)
set_option maxRecDepth 100000 in
set_option maxHeartbeats 4000000 in
theorem ct_X6_pickFor {E : am_E} {μ : am_M} (hb : Bs μ) {S N : Nat} (ht : Tb μ S N) (hv : Tv μ S N) (i : Nat) (hi : i < N) : am_Ct E yX6_pickFor cX6_pickFor 2 (some .int) rmX6_pickFor [.ref 1, .int (nI i)] μ (fun v μ' => v = some (.int (enO (-1) (pkF μ S N i))) ∧ μ = μ') := by
  refine am_Ct.of (ls := [some (.ref 1), some (.int (nI i))]) (by decide) (Nat.le_of_ble_eq_true rfl) rfl (fun C fx hnm => ?_)
  have hS := ht.s
  have hN := ht.n
  refine am_aload_n fx dX6_pickFor_0 rfl ?_
  refine am_getR fx dX6_pickFor_1 fkX6_12 (by decide) (by decide) rfl (so6 hb) (rf6_0 hb) ?_
  refine am_aload_n fx dX6_pickFor_4 rfl ?_
  refine am_getR fx dX6_pickFor_5 fkX6_12 (by decide) (by decide) rfl (so6 hb) (rf6_0 hb) ?_
  refine am_iload_n fx dX6_pickFor_8 rfl ?_
  refine am_callV fx dX6_pickFor_9 mkX6_213 (ct_X5_nearestLearning hb ht i hi (fun j hj => hv.2 j i hj hi)) (so5 hb) ⟨by decide, rfl⟩ rfl (Nat.le_of_ble_eq_true rfl) ⟨by decide, by decide⟩ ⟨Nat.le_of_ble_eq_true rfl, Nat.le_of_ble_eq_true rfl⟩ rfl ?_
  rintro _ _ ⟨rfl, rfl⟩
  rw [show am1 (fun j => decide (j ≠ i) && decide (¬ mm_I μ 20 j = 0)) (fun j => di μ j i) N = nrF μ N i from rfl]
  rcases hnr : nrF μ N i with _ | j
  · refine am_callV fx dX6_pickFor_12 mkX6_216 (ct_X5_bestOnN hb ht) (so5 hb) ⟨by decide, rfl⟩ rfl (Nat.le_of_ble_eq_true rfl) ⟨by decide, by decide⟩ ⟨Nat.le_of_ble_eq_true rfl, Nat.le_of_ble_eq_true rfl⟩ rfl ?_
    rintro _ _ ⟨rfl, rfl⟩
    exact am_iret fx dX6_pickFor_15 ⟨by rw [pkF_n hnr]; rfl, rfl⟩
  refine am_callV fx dX6_pickFor_12 mkX6_216 (ct_X5_bestOn hb ht j (nrF_lt hnr) (fun s hs => hv.1 s j hs (nrF_lt hnr))) (so5 hb) ⟨by decide, rfl⟩ rfl (Nat.le_of_ble_eq_true rfl) ⟨by decide, by decide⟩ ⟨Nat.le_of_ble_eq_true rfl, Nat.le_of_ble_eq_true rfl⟩ rfl ?_
  rintro _ _ ⟨rfl, rfl⟩
  exact am_iret fx dX6_pickFor_15 ⟨by rw [pkF_s hnr]; rfl, rfl⟩
theorem enO_n1 {o : Option Nat} (h : ∀ b, o = some b → b < 2 ^ 31) : enO (-1) o = -1 ↔ o = none := by
  rcases o with _ | b
  · exact ⟨fun _ => rfl, fun _ => rfl⟩
  · exact ⟨fun z => absurd z (nI_nm1 (h b rfl)), fun z => by cases z⟩
theorem bsF_lt {μ : am_M} {S N i b : Nat} (h : bsF μ S N i = some b) : b < S ∧ mm_I μ 16 b = nI N := ⟨(am1_lt h).1, of_decide_eq_true (am1_lt h).2⟩
theorem pkF_lt {μ : am_M} {S N i b : Nat} (h : pkF μ S N i = some b) : b < S := by
  rcases hn : nrF μ N i with _ | j
  · rw [pkF_n hn] at h; cases h
  · rw [pkF_s hn] at h; exact (bsF_lt h).1
set_option maxRecDepth 100000 in
set_option maxHeartbeats 4000000 in
theorem ct_X6_pick {E : am_E} {μ : am_M} (hb : Bs μ) {S N : Nat} (ht : Tb μ S N) (hv : Tv μ S N) (x : Int32) : am_Ct E yX6_pick cX6_pick 3 (some .int) rmX6_pick [.ref 1, .int x] μ (fun v μ' => (¬ (0 ≤ x ∧ x < nI N) ∧ v = some (.int (-1)) ∧ μ = μ') ∨ (∃ i, i < N ∧ x = nI i ∧ v = some (.int (enO (-3) (pkF μ S N i))) ∧ μ = μ')) := by
  refine am_Ct.of (ls := [some (.ref 1), some (.int x), none]) (by decide) (Nat.le_of_ble_eq_true rfl) rfl (fun C fx hnm => ?_)
  have hS := ht.s
  have hN := ht.n
  refine am_aload_n fx dX6_pick_0 rfl ?_
  refine am_getR fx dX6_pick_1 fkX6_12 (by decide) (by decide) rfl (so6 hb) (rf6_0 hb) ?_
  refine am_iload_n fx dX6_pick_4 rfl ?_
  refine am_callV fx dX6_pick_5 mkX6_59 (ct_X5_hasInstance hb ht _) (so5 hb) ⟨by decide, rfl⟩ rfl (Nat.le_of_ble_eq_true rfl) ⟨by decide, by decide⟩ ⟨Nat.le_of_ble_eq_true rfl, Nat.le_of_ble_eq_true rfl⟩ rfl ?_
  rintro _ _ ⟨rfl, rfl⟩
  refine am_if_ne fx 13 dX6_pick_8 (by decide) (fun c8 => ?_) (fun c8 => ?_)
  · try simp (disch := omega) only [bz_0, Classical.not_not, Int32.not_le, Int32.not_lt, Nat.not_le, Nat.not_lt, nI_leI, nI_ltI, nI_eq, nI_le0, nI_lt0] at c8
    obtain ⟨i, hi, rfl⟩ := nI_rg2 c8 (by omega)
    refine am_aload_n fx dX6_pick_13 rfl ?_
    refine am_iload_n fx dX6_pick_14 rfl ?_
    refine am_callV fx dX6_pick_15 mkX6_168 (ct_X6_pickFor hb ht hv i hi) (so6 hb) ⟨by decide, rfl⟩ rfl (Nat.le_of_ble_eq_true rfl) ⟨by decide, by decide⟩ ⟨Nat.le_of_ble_eq_true rfl, Nat.le_of_ble_eq_true rfl⟩ rfl ?_
    rintro _ _ ⟨rfl, rfl⟩
    have hpl : ∀ b, pkF μ S N i = some b → b < 2 ^ 31 := fun b hb => by have := pkF_lt hb; omega
    refine am_istore_n fx dX6_pick_18 (by decide) rfl ?_
    refine am_iload_n fx dX6_pick_19 rfl ?_
    refine am_iconst (v := (-1)) fx dX6_pick_20 (by decide) ?_
    refine am_icmp_ne fx 29 dX6_pick_21 (by decide) (fun c21 => ?_) (fun c21 => ?_)
    · skip
      refine am_iload_n fx dX6_pick_29 rfl ?_
      exact am_iret fx dX6_pick_30 (Or.inr ⟨i, hi, rfl, by rcases hp : pkF μ S N i with _ | b <;> rw [hp] at c21; exact absurd rfl c21; rfl, rfl⟩)
    · skip
      have c21 := (enO_n1 hpl).mp c21
      refine am_bipush (v := (-3)) fx dX6_pick_24 (by decide) ?_
      refine am_goto fx 30 dX6_pick_26 (by decide) ?_
      exact am_iret fx dX6_pick_30 (Or.inr ⟨i, hi, rfl, by rw [c21]; rfl, rfl⟩)
  · try simp (disch := omega) only [bz_0, Classical.not_not, Int32.not_le, Int32.not_lt, Nat.not_le, Nat.not_lt, nI_leI, nI_ltI, nI_eq, nI_le0, nI_lt0] at c8
    refine am_iconst (v := (-1)) fx dX6_pick_11 (by decide) ?_
    exact am_iret fx dX6_pick_12 (Or.inl ⟨c8, rfl, rfl⟩)
