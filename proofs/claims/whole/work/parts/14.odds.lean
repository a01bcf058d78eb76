/-! odds: the pure side -/
def wte (g : Nat → Int32) (j k : Nat) : Nat := if g j < g k then 2 else if j ≠ k ∧ g j = g k then 1 else 0
def wts (g : Nat → Int32) (k : Nat) : Nat → Nat
  | 0 => 0
  | n + 1 => wts g k n + wte g n k
def wtN (g : Nat → Int32) (n k : Nat) : Nat := 2 + wts g k n
theorem i32_tri (a b : Int32) : a < b ∨ a = b ∨ b < a := by
  rcases Int.lt_trichotomy a.toInt b.toInt with h | h | h
  · exact Or.inl (Int32.lt_iff_toInt_lt.mpr h)
  · exact Or.inr (Or.inl (Int32.toInt_inj.mp h))
  · exact Or.inr (Or.inr (Int32.lt_iff_toInt_lt.mpr h))
theorem wte_sym (g : Nat → Int32) {j k : Nat} (h : j ≠ k) : wte g j k + wte g k j = 2 := by
  unfold wte
  rcases i32_tri (g j) (g k) with q | q | q
  · rw [if_pos q, if_neg (Int32.not_lt.mpr (Int32.le_of_lt q)), if_neg (fun z => absurd z.2.symm (Int32.ne_of_lt q))]
  · simp [q, h, Ne.symm h, Int32.lt_irrefl]
  · rw [if_neg (Int32.not_lt.mpr (Int32.le_of_lt q)), if_neg (fun z => absurd z.2.symm (Int32.ne_of_lt q)), if_pos q]
theorem wte_self (g : Nat → Int32) (k : Nat) : wte g k k = 0 := by
  unfold wte
  rw [if_neg (Int32.lt_irrefl), if_neg (fun z => z.1 rfl)]
def wtT (g : Nat → Int32) (n : Nat) : Nat → Nat
  | 0 => 0
  | k + 1 => wtT g n k + wts g k n
theorem wtT_grow (g : Nat → Int32) (n : Nat) : ∀ k, k ≤ n → wtT g (n + 1) k + wts g n k = wtT g n k + 2 * k
  | 0, _ => rfl
  | k + 1, h => by
    have ih := wtT_grow g n k (by omega)
    have hs := wte_sym g (show n ≠ k by omega)
    simp only [wtT, wts] at *
    omega
theorem wtT_all (g : Nat → Int32) : ∀ n, wtT g n n + n = n * n
  | 0 => rfl
  | n + 1 => by
    have h1 := wtT_grow g n n (Nat.le_refl n)
    have h2 := wtT_all g n
    have h3 := wte_self g n
    have e : (n + 1) * (n + 1) = n * n + 2 * n + 1 := by rw [Nat.add_mul, Nat.mul_add]; omega
    rw [e]
    simp only [wtT, wts, h3]
    omega
def odw (kd : Int32) (g : Nat → Int32) (n k : Nat) : Nat := if kd = 0 then 1 else wtN g n k
def mst (kd : Int32) (g : Nat → Int32) (n : Nat) : Nat → Nat
  | 0 => 0
  | k + 1 => mst kd g n k + odw kd g n k
def rch (kd : Int32) (g f : Nat → Int32) (n : Nat) : Nat → Nat
  | 0 => 0
  | k + 1 => rch kd g f n k + (if f k = 0 then 0 else odw kd g n k)
theorem rch_le (kd : Int32) (g f : Nat → Int32) (n : Nat) : ∀ k, rch kd g f n k ≤ mst kd g n k
  | 0 => Nat.le_refl _
  | k + 1 => by
    have := rch_le kd g f n k
    simp only [rch, mst]
    split <;> omega
theorem mst_mono (kd : Int32) (g : Nat → Int32) (n : Nat) {i k : Nat} (h : i ≤ k) : mst kd g n i ≤ mst kd g n k := by
  induction k with
  | zero => rw [show i = 0 by omega]; exact Nat.le_refl _
  | succ k ih =>
    rcases Nat.lt_or_ge i (k + 1) with q | q
    · have := ih (by omega)
      simp only [mst]
      omega
    · rw [show i = k + 1 by omega]; exact Nat.le_refl _
theorem mst_eq1 (kd : Int32) (h : ¬ kd = 0) (g : Nat → Int32) (n : Nat) : ∀ k, mst kd g n k = 2 * k + wtT g n k
  | 0 => rfl
  | k + 1 => by
    have := mst_eq1 kd h g n k
    simp only [mst, wtT, odw, if_neg h, wtN]
    omega
theorem mst_eq0 (kd : Int32) (h : kd = 0) (g : Nat → Int32) (n : Nat) : ∀ k, mst kd g n k = k
  | 0 => rfl
  | k + 1 => by
    have := mst_eq0 kd h g n k
    simp only [mst, odw, if_pos h]
    omega
theorem mst_top (kd : Int32) (g : Nat → Int32) {n k : Nat} (hk : k ≤ n) (hn : n ≤ 24) : mst kd g n k ≤ 600 := by
  refine Nat.le_trans (mst_mono kd g n hk) ?_
  by_cases h : kd = 0
  · rw [mst_eq0 kd h]; omega
  · rw [mst_eq1 kd h]
    have h1 := wtT_all g n
    have h2 : n * n ≤ 24 * n := Nat.mul_le_mul_right n hn
    omega
theorem odw_pos (kd : Int32) (g : Nat → Int32) (n k : Nat) : 1 ≤ odw kd g n k := by
  unfold odw wtN
  split <;> omega
def asg (h : Nat → Int64) (w m : Nat) : Nat → Int64 := fun s => if w ≤ s ∧ s ≤ m then h s + h (s - w) else h s
/-- .. down to s, which isn't done yet -/
def asgP (h : Nat → Int64) (w m s : Nat) : Nat → Int64 := fun t => if s < t ∧ w ≤ t ∧ t ≤ m then h t + h (t - w) else h t
def wy (kd : Int32) (g : Nat → Int32) (n : Nat) : Nat → Nat → Int64
  | 0 => fun s => if s = 0 then 1 else 0
  | k + 1 => asg (wy kd g n k) (odw kd g n k) (mst kd g n (k + 1))
def pw : Nat → Int64
  | 0 => 1
  | k + 1 => pw k * 2
/-- the sum of h over lo, lo + 1 .. lo + d - 1 -/
def smL (h : Nat → Int64) (lo : Nat) : Nat → Int64
  | 0 => 0
  | d + 1 => smL h lo d + h (lo + d)
def upN (kd : Int32) (g f : Nat → Int32) (n : Nat) : Int64 := smL (wy kd g n n) (rch kd g f n n) (mst kd g n n + 1 - rch kd g f n n)
theorem smL_congr {h h' : Nat → Int64} {lo : Nat} : ∀ {d : Nat}, (∀ t, t < d → h (lo + t) = h' (lo + t)) → smL h lo d = smL h' lo d
  | 0, _ => rfl
  | d + 1, q => by simp only [smL]; rw [smL_congr (d := d) (fun t ht => q t (by omega)), q d (by omega)]
/-! the counter's longs: ways, lower, upper -/
def mo (μ : am_M) (h : Nat → Int64) (lo up : Int64) : am_M := (μ.1, μ.2.1, fun a k => if a = 24 then h k else if a = 21 ∧ k = 5 then lo else if a = 21 ∧ k = 4 then up else μ.2.2.1 a k, μ.2.2.2.1, μ.2.2.2.2)
theorem mo_self (μ : am_M) : mo μ (mm_L μ 24) (mm_L μ 21 5) (mm_L μ 21 4) = μ := am_ext rfl (fun _ _ => rfl) (fun a k => by
  show (if a = 24 then mm_L μ 24 k else if a = 21 ∧ k = 5 then mm_L μ 21 5 else if a = 21 ∧ k = 4 then mm_L μ 21 4 else mm_L μ a k) = mm_L μ a k
  repeat' split
  all_goals simp_all) rfl rfl
theorem mL_mo (μ : am_M) (h : Nat → Int64) (lo up : Int64) (a k : Nat) : mm_L (mo μ h lo up) a k = if a = 24 then h k else if a = 21 ∧ k = 5 then lo else if a = 21 ∧ k = 4 then up else mm_L μ a k := rfl
theorem mI_mo (μ : am_M) (h : Nat → Int64) (lo up : Int64) : mm_I (mo μ h lo up) = mm_I μ := rfl
theorem Fr.mo (μ : am_M) (h : Nat → Int64) (lo up : Int64) : Fr μ (mo μ h lo up) := ⟨rfl, rfl, rfl⟩
theorem mo_fL (μ : am_M) (h h' : Nat → Int64) (lo up : Int64) : mm_fL (mo μ h lo up) 24 h' = mo μ h' lo up := am_ext rfl (fun _ _ => rfl) (fun a k => by
  simp only [mL_fL, mL_mo]; repeat' split
  all_goals simp_all) rfl rfl
theorem mo_s24 (μ : am_M) (h : Nat → Int64) (lo up v : Int64) (j : Nat) : mm_sL (mo μ h lo up) 24 j v = mo μ (vp_updL h j v) lo up := am_ext rfl (fun _ _ => rfl) (fun a k => by
  simp only [mL_sL, mL_mo, vp_updL]; repeat' split
  all_goals simp_all) rfl rfl
theorem mo_s5 (μ : am_M) (h : Nat → Int64) (lo up v : Int64) : mm_sL (mo μ h lo up) 21 5 v = mo μ h v up := am_ext rfl (fun _ _ => rfl) (fun a k => by
  simp only [mL_sL, mL_mo]; repeat' split
  all_goals simp_all) rfl rfl
theorem mo_s4 (μ : am_M) (h : Nat → Int64) (lo up v : Int64) : mm_sL (mo μ h lo up) 21 4 v = mo μ h lo v := am_ext rfl (fun _ _ => rfl) (fun a k => by
  simp only [mL_sL, mL_mo]; repeat' split
  all_goals simp_all) rfl rfl
set_option maxRecDepth 100000 in
set_option maxHeartbeats 4000000 in
theorem ct_X0_clear {E : am_E} {μ : am_M} (hb : Bs μ) : am_Ct E yX0_clear cX0_clear 1 none rmX0_clear [.ref 21] μ (fun v μ' => v = none ∧ μ' = mm_sI μ 21 3 0) := by
  refine am_Ct.of (ls := [some (.ref 21)]) (by decide) (Nat.le_of_ble_eq_true rfl) rfl (fun C fx hnm => ?_)
  refine am_aload_n fx dX0_clear_0 rfl ?_
  refine am_iconst (v := 0) fx dX0_clear_1 (by decide) ?_
  refine am_putI fx dX0_clear_2 fkX0_23 (by decide) (by decide) rfl rfl (so0 hb) ?_
  exact am_vret fx dX0_clear_5 ⟨rfl, rfl⟩
set_option maxRecDepth 100000 in
set_option maxHeartbeats 4000000 in
theorem ct_X0_weightOf {E : am_E} {μ : am_M} (hb : Bs μ) {n : Nat} (hn : mm_I μ 21 3 = nI n) (h24 : n ≤ 24) (k : Nat) (hk : k < n) : am_Ct E yX0_weightOf cX0_weightOf 4 (some .int) rmX0_weightOf [.ref 21, .int (nI k)] μ (fun v μ' => v = some (.int (nI (wtN (mm_I μ 22) n k))) ∧ μ = μ') := by
  refine am_Ct.of (ls := [some (.ref 21), some (.int (nI k)), none, none]) (by decide) (Nat.le_of_ble_eq_true rfl) rfl (fun C fx hnm => ?_)
  refine am_iconst (v := 2) fx dX0_weightOf_0 (by decide) ?_
  refine am_istore_n fx dX0_weightOf_1 (by decide) rfl ?_
  refine am_iconst (v := 0) fx dX0_weightOf_2 (by decide) ?_
  refine am_istore_n fx dX0_weightOf_3 (by decide) rfl ?_
  have lp4 : ∀ (mz : Nat) (r : Nat) (x : Int32), n - r = mz → r ≤ n → x = nI (2 + wts (mm_I μ 22) k r) → am_W E C (am_MQ E C (fun v μ' => v = some (.int (nI (wtN (mm_I μ 22) n k))) ∧ μ = μ') (rmX0_weightOf).cells (rmX0_weightOf).slots) μ 0 0 4 [some (.ref 21), some (.int (nI k)), some (.int x), some (.int (nI r))] [] := by
    intro mz
    induction mz using Nat.strongRecOn with
    | ind mz ih =>
      intro r x hm hr hx
      refine am_iload_n fx dX0_weightOf_4 rfl ?_
      refine am_aload_n fx dX0_weightOf_5 rfl ?_
      refine am_getI fx dX0_weightOf_6 fkX0_23 (by decide) (by decide) rfl (so0 hb) hn ?_
      refine am_icmp_ge fx 62 dX0_weightOf_9 (by decide) (fun c9 => ?_) (fun c9 => ?_)
      · try simp (disch := omega) only [bz_0, Classical.not_not, Int32.not_le, Int32.not_lt, Nat.not_le, Nat.not_lt, nI_leI, nI_ltI, nI_eq, nI_le0, nI_lt0] at c9
        refine am_iload_n fx dX0_weightOf_62 rfl ?_
        exact am_iret fx dX0_weightOf_63 ⟨by rw [hx, show r = n by omega]; rfl, rfl⟩
      · try simp (disch := omega) only [bz_0, Classical.not_not, Int32.not_le, Int32.not_lt, Nat.not_le, Nat.not_lt, nI_leI, nI_ltI, nI_eq, nI_le0, nI_lt0] at c9
        refine am_aload_n fx dX0_weightOf_12 rfl ?_
        refine am_getR fx dX0_weightOf_13 fkX0_9 (by decide) (by decide) rfl (so0 hb) (rf0_0 hb) ?_
        refine am_iload_n fx dX0_weightOf_16 rfl ?_
        refine am_iald  fx dX0_weightOf_17 (sa0_0 hb) rfl (by omega) (by decide) rfl ?_
        refine am_aload_n fx dX0_weightOf_18 rfl ?_
        refine am_getR fx dX0_weightOf_19 fkX0_9 (by decide) (by decide) rfl (so0 hb) (rf0_0 hb) ?_
        refine am_iload_n fx dX0_weightOf_22 rfl ?_
        refine am_iald  fx dX0_weightOf_23 (sa0_0 hb) rfl (by omega) (by decide) rfl ?_
        refine am_icmp_ge fx 33 dX0_weightOf_24 (by decide) (fun c24 => ?_) (fun c24 => ?_)
        · try simp (disch := omega) only [bz_0, Classical.not_not, Int32.not_le, Int32.not_lt, Nat.not_le, Nat.not_lt, nI_leI, nI_ltI, nI_eq, nI_le0, nI_lt0] at c24
          refine am_iload_n fx dX0_weightOf_33 rfl ?_
          refine am_iload_n fx dX0_weightOf_34 rfl ?_
          refine am_icmp_eq fx 56 dX0_weightOf_35 (by decide) (fun c35 => ?_) (fun c35 => ?_)
          · try simp (disch := omega) only [bz_0, Classical.not_not, Int32.not_le, Int32.not_lt, Nat.not_le, Nat.not_lt, nI_leI, nI_ltI, nI_eq, nI_le0, nI_lt0] at c35
            first | refine am_iinc fx dX0_weightOf_56 rfl (nI_inc _) (by decide) rfl ?_ | refine am_iinc fx dX0_weightOf_56 rfl rfl (by decide) rfl ?_
            refine am_goto fx 4 dX0_weightOf_59 (by decide) ?_
            exact ih (n - (r + 1)) (by omega) (r + 1) _ rfl (by omega) (by rw [hx]; simp only [wts, wte]; rw [if_neg (Int32.not_lt.mpr c24), if_neg (fun z => z.1 c35)]; rfl)
          · try simp (disch := omega) only [bz_0, Classical.not_not, Int32.not_le, Int32.not_lt, Nat.not_le, Nat.not_lt, nI_leI, nI_ltI, nI_eq, nI_le0, nI_lt0] at c35
            refine am_aload_n fx dX0_weightOf_38 rfl ?_
            refine am_getR fx dX0_weightOf_39 fkX0_9 (by decide) (by decide) rfl (so0 hb) (rf0_0 hb) ?_
            refine am_iload_n fx dX0_weightOf_42 rfl ?_
            refine am_iald  fx dX0_weightOf_43 (sa0_0 hb) rfl (by omega) (by decide) rfl ?_
            refine am_aload_n fx dX0_weightOf_44 rfl ?_
            refine am_getR fx dX0_weightOf_45 fkX0_9 (by decide) (by decide) rfl (so0 hb) (rf0_0 hb) ?_
            refine am_iload_n fx dX0_weightOf_48 rfl ?_
            refine am_iald  fx dX0_weightOf_49 (sa0_0 hb) rfl (by omega) (by decide) rfl ?_
            refine am_icmp_ne fx 56 dX0_weightOf_50 (by decide) (fun c50 => ?_) (fun c50 => ?_)
            · try simp (disch := omega) only [bz_0, Classical.not_not, Int32.not_le, Int32.not_lt, Nat.not_le, Nat.not_lt, nI_leI, nI_ltI, nI_eq, nI_le0, nI_lt0] at c50
              first | refine am_iinc fx dX0_weightOf_56 rfl (nI_inc _) (by decide) rfl ?_ | refine am_iinc fx dX0_weightOf_56 rfl rfl (by decide) rfl ?_
              refine am_goto fx 4 dX0_weightOf_59 (by decide) ?_
              exact ih (n - (r + 1)) (by omega) (r + 1) _ rfl (by omega) (by rw [hx]; simp only [wts, wte]; rw [if_neg (Int32.not_lt.mpr c24), if_neg (fun z => c50 z.2)]; rfl)
            · try simp (disch := omega) only [bz_0, Classical.not_not, Int32.not_le, Int32.not_lt, Nat.not_le, Nat.not_lt, nI_leI, nI_ltI, nI_eq, nI_le0, nI_lt0] at c50
              first | refine am_iinc fx dX0_weightOf_53 rfl (nI_inc _) (by decide) rfl ?_ | refine am_iinc fx dX0_weightOf_53 rfl rfl (by decide) rfl ?_
              first | refine am_iinc fx dX0_weightOf_56 rfl (nI_inc _) (by decide) rfl ?_ | refine am_iinc fx dX0_weightOf_56 rfl rfl (by decide) rfl ?_
              refine am_goto fx 4 dX0_weightOf_59 (by decide) ?_
              exact ih (n - (r + 1)) (by omega) (r + 1) _ rfl (by omega) (by rw [hx]; simp only [wts, wte]; rw [if_neg (Int32.not_lt.mpr c24), if_pos ⟨c35, c50⟩, ← Nat.add_assoc]; exact nI_inc _)
        · try simp (disch := omega) only [bz_0, Classical.not_not, Int32.not_le, Int32.not_lt, Nat.not_le, Nat.not_lt, nI_leI, nI_ltI, nI_eq, nI_le0, nI_lt0] at c24
          first | refine am_iinc fx dX0_weightOf_27 rfl rfl (by decide) rfl ?_ | refine am_iinc fx dX0_weightOf_27 rfl rfl (by decide) rfl ?_
          refine am_goto fx 56 dX0_weightOf_30 (by decide) ?_
          first | refine am_iinc fx dX0_weightOf_56 rfl (nI_inc _) (by decide) rfl ?_ | refine am_iinc fx dX0_weightOf_56 rfl rfl (by decide) rfl ?_
          refine am_goto fx 4 dX0_weightOf_59 (by decide) ?_
          exact ih (n - (r + 1)) (by omega) (r + 1) _ rfl (by omega) (by rw [hx]; simp only [wts, wte]; rw [if_pos c24, ← Nat.add_assoc]; exact nI_add _ 2)
  exact lp4 _ 0 _ rfl (by omega) rfl
theorem asgP_s (h : Nat → Int64) (w m s : Nat) (hw : 1 ≤ w) (hs : w ≤ s) (hm : s ≤ m) : vp_updL (asgP h w m s) s (asgP h w m s s + asgP h w m s (s - w)) = asgP h w m (s - 1) := by
  funext t
  simp only [vp_updL, asgP]
  by_cases ht : t = s
  · subst ht
    rw [if_pos rfl, if_neg (by omega), if_neg (by omega), if_pos ⟨by omega, hs, hm⟩]
  · rw [if_neg ht]
    by_cases h2 : s < t ∧ w ≤ t ∧ t ≤ m
    · rw [if_pos h2, if_pos ⟨by omega, h2.2⟩]
    · rw [if_neg h2, if_neg (by omega)]
theorem asgP_0 (h : Nat → Int64) (w m : Nat) : asgP h w m m = h := by funext t; simp only [asgP]; rw [if_neg (by omega)]
theorem asgP_e (h : Nat → Int64) (w m s : Nat) (hs : s < w) : asgP h w m s = asg h w m := by
  funext t
  simp only [asgP, asg]
  by_cases h2 : w ≤ t ∧ t ≤ m
  · rw [if_pos h2, if_pos ⟨by omega, h2⟩]
  · rw [if_neg h2, if_neg (fun z => h2 z.2)]
set_option maxRecDepth 100000 in
set_option maxHeartbeats 4000000 in
theorem ct_X0_addSign {E : am_E} {μ : am_M} (hb : Bs μ) (w0 m : Nat) (hw : 1 ≤ w0) (hw2 : w0 ≤ 600) (hm : m ≤ 600) : am_Ct E yX0_addSign cX0_addSign 4 none rmX0_addSign [.ref 21, .int (nI w0), .int (nI m)] μ (fun v μ' => v = none ∧ μ' = mm_fL μ 24 (asg (mm_L μ 24) w0 m)) := by
  refine am_Ct.of (ls := [some (.ref 21), some (.int (nI w0)), some (.int (nI m)), none]) (by decide) (Nat.le_of_ble_eq_true rfl) rfl (fun C fx hnm => ?_)
  refine am_iload_n fx dX0_addSign_0 rfl ?_
  refine am_istore_n fx dX0_addSign_1 (by decide) rfl ?_
  have lp2 : ∀ (mz : Nat) (s : Nat), s = mz → s ≤ m → am_W E C (am_MQ E C (fun v μ' => v = none ∧ μ' = mm_fL μ 24 (asg (mm_L μ 24) w0 m)) (rmX0_addSign).cells (rmX0_addSign).slots) (mm_fL μ 24 (asgP (mm_L μ 24) w0 m s)) 0 0 2 [some (.ref 21), some (.int (nI w0)), some (.int (nI m)), some (.int (nI s))] [] := by
    intro mz
    induction mz using Nat.strongRecOn with
    | ind mz ih =>
      intro s hs0 hs
      have e24 : ∀ t, mm_L (mm_fL μ 24 (asgP (mm_L μ 24) w0 m s)) 24 t = asgP (mm_L μ 24) w0 m s t := fun t => mL_fLs _ _ _ _
      refine am_iload_n fx dX0_addSign_2 rfl ?_
      refine am_iload_n fx dX0_addSign_3 rfl ?_
      refine am_icmp_lt fx 30 dX0_addSign_4 (by decide) (fun c4 => ?_) (fun c4 => ?_)
      · try simp (disch := omega) only [bz_0, Classical.not_not, Int32.not_le, Int32.not_lt, Nat.not_le, Nat.not_lt, nI_leI, nI_ltI, nI_eq, nI_le0, nI_lt0] at c4
        exact am_vret fx dX0_addSign_30 ⟨rfl, by rw [asgP_e (mm_L μ 24) w0 m s (by omega)]⟩
      · try simp (disch := omega) only [bz_0, Classical.not_not, Int32.not_le, Int32.not_lt, Nat.not_le, Nat.not_lt, nI_leI, nI_ltI, nI_eq, nI_le0, nI_lt0] at c4
        have hws : w0 ≤ s := by omega
        refine am_aload_n fx dX0_addSign_7 rfl ?_
        refine am_getR fx dX0_addSign_8 fkX0_19 (by decide) (by decide) rfl (so0 hb) (rf0_2 hb) ?_
        refine am_iload_n fx dX0_addSign_11 rfl ?_
        refine am_dup2 fx dX0_addSign_12 ?_
        refine am_lald  fx dX0_addSign_13 (sa0_2 hb) rfl (by omega) (by decide) (e24 s) ?_
        refine am_aload_n fx dX0_addSign_14 rfl ?_
        refine am_getR fx dX0_addSign_15 fkX0_19 (by decide) (by decide) rfl (so0 hb) (rf0_2 hb) ?_
        refine am_iload_n fx dX0_addSign_18 rfl ?_
        refine am_iload_n fx dX0_addSign_19 rfl ?_
        refine am_isub fx dX0_addSign_20 ?_
        refine am_topi (pk_sub hws) ?_
        refine am_lald  fx dX0_addSign_21 (sa0_2 hb) rfl (by omega) (by decide) (e24 (s - w0)) ?_
        refine am_ladd fx dX0_addSign_22 ?_
        refine am_last  fx dX0_addSign_23 (sa0_2 hb) rfl (by omega) (by decide) ?_
        first | refine am_iinc fx dX0_addSign_24 rfl (nI_dec (by omega)) (by decide) rfl ?_ | refine am_iinc fx dX0_addSign_24 rfl rfl (by decide) rfl ?_
        refine am_goto fx 2 dX0_addSign_27 (by decide) ?_
        exact am_mem (by rw [sL_fL, asgP_s (mm_L μ 24) w0 m s hw (by omega) (by omega)]) (ih (s - 1) (by omega) (s - 1) rfl (by omega))
  refine am_mem (show μ = mm_fL μ 24 (asgP (mm_L μ 24) w0 m m) by rw [asgP_0, fL_self]) ?_
  rw [show (0 : Nat) + 1 + 1 = 2 from rfl]
  exact lp2 _ m rfl (by omega)
theorem smL_0 (h : Nat → Int64) (lo : Nat) : smL h lo 0 = 0 := rfl
theorem asg_in {h h' : Nat → Int64} {w m : Nat} (q : ∀ t, t < 601 → h t = h' t) : ∀ t, t < 601 → asg h w m t = asg h' w m t := fun t ht => by
  simp only [asg]
  rw [q t ht, q (t - w) (by omega)]
set_option maxRecDepth 100000 in
set_option maxHeartbeats 4000000 in
theorem ct_X0_count {E : am_E} {μ : am_M} (hb : Bs μ) {n : Nat} (hn : mm_I μ 21 3 = nI n) (h24 : n ≤ 24) (kd : Int32) : am_Ct E yX0_count cX0_count 6 none rmX0_count [.ref 21, .int kd] μ (fun v μ' => v = none ∧ ∃ h, μ' = mo μ h (pw n) (upN kd (mm_I μ 22) (mm_I μ 23) n)) := by
  refine am_Ct.of (ls := [some (.ref 21), some (.int kd), none, none, none, none]) (by decide) (Nat.le_of_ble_eq_true rfl) rfl (fun C fx hnm => ?_)
  have hfl : ∀ g : Nat → Int32, True := fun _ => trivial
  refine am_aload_n fx dX0_count_0 rfl ?_
  refine am_getR fx dX0_count_1 fkX0_19 (by decide) (by decide) rfl (so0 hb) (rf0_2 hb) ?_
  refine am_lconst (v := 0) fx dX0_count_4 (by decide) ?_
  refine am_callS fx dX0_count_5 mkX0_40 (ct_J7_fill_d0a16 (sa0_2 hb) (by decide) _) rfl (Nat.le_of_ble_eq_true rfl) ⟨by decide, by decide⟩ ⟨Nat.le_of_ble_eq_true rfl, Nat.le_of_ble_eq_true rfl⟩ rfl ?_
  rintro _ _ ⟨rfl, rfl⟩
  refine am_aload_n fx dX0_count_8 rfl ?_
  refine am_getR fx dX0_count_9 fkX0_19 (by decide) (by decide) rfl (so0 (hb.fr (Fr.fL _ _ _))) (rf0_2 (hb.fr (Fr.fL _ _ _))) ?_
  refine am_iconst (v := 0) fx dX0_count_12 (by decide) ?_
  refine am_lconst (v := 1) fx dX0_count_13 (by decide) ?_
  refine am_last (j := 0) fx dX0_count_14 (sa0_2 hb) rfl (by omega) (by decide) ?_
  refine am_iconst (v := 0) fx dX0_count_15 (by decide) ?_
  refine am_istore_n fx dX0_count_16 (by decide) rfl ?_
  refine am_iconst (v := 0) fx dX0_count_17 (by decide) ?_
  refine am_istore_n fx dX0_count_18 (by decide) rfl ?_
  refine am_aload_n fx dX0_count_19 rfl ?_
  refine am_lconst (v := 1) fx dX0_count_20 (by decide) ?_
  refine am_putL fx dX0_count_21 fkX0_31 (by decide) (by decide) rfl rfl (so0 hb) ?_
  refine am_iconst (v := 0) fx dX0_count_24 (by decide) ?_
  refine am_istore fx dX0_count_25 (by decide) rfl ?_
  have lp27 : ∀ (mz : Nat) (r : Nat) (h : Nat → Int64), n - r = mz → r ≤ n → (∀ t, t < 601 → h t = wy kd (mm_I μ 22) n r t) → am_W E C (am_MQ E C (fun v μ' => v = none ∧ ∃ h, μ' = mo μ h (pw n) (upN kd (mm_I μ 22) (mm_I μ 23) n)) (rmX0_count).cells (rmX0_count).slots) (mo μ h (pw r) (mm_L μ 21 4)) 0 0 27 [some (.ref 21), some (.int kd), some (.int (nI (mst kd (mm_I μ 22) n r))), some (.int (nI (rch kd (mm_I μ 22) (mm_I μ 23) n r))), some (.int (nI r)), none] [] := by
    intro mz
    induction mz using Nat.strongRecOn with
    | ind mz ih =>
      intro r h hz hr hh
      have hb2 : Bs (mo μ h (pw r) (mm_L μ 21 4)) := hb.fr (Fr.mo _ _ _ _)
      have hm1 := mst_top kd (mm_I μ 22) (show r ≤ n from hr) h24
      have hr1 := rch_le kd (mm_I μ 22) (mm_I μ 23) n r
      refine am_iload fx dX0_count_27 rfl ?_
      refine am_aload_n fx dX0_count_29 rfl ?_
      refine am_getI fx dX0_count_30 fkX0_23 (by decide) (by decide) rfl (so0 hb2) hn ?_
      refine am_icmp_ge fx 103 dX0_count_33 (by decide) (fun c33 => ?_) (fun c33 => ?_)
      · try simp (disch := omega) only [bz_0, Classical.not_not, Int32.not_le, Int32.not_lt, Nat.not_le, Nat.not_lt, nI_leI, nI_ltI, nI_eq, nI_le0, nI_lt0] at c33
        refine am_aload_n fx dX0_count_103 rfl ?_
        refine am_lconst (v := 0) fx dX0_count_104 (by decide) ?_
        have en : n = r := by omega
        subst en
        refine am_putL fx dX0_count_105 fkX0_27 (by decide) (by decide) rfl rfl (so0 hb2) ?_
        refine am_iload_n fx dX0_count_108 rfl ?_
        refine am_istore fx dX0_count_109 (by decide) rfl ?_
        have lp111 : ∀ (mz : Nat) (d : Nat), mst kd (mm_I μ 22) n n + 1 - (rch kd (mm_I μ 22) (mm_I μ 23) n n + d) = mz → rch kd (mm_I μ 22) (mm_I μ 23) n n + d ≤ mst kd (mm_I μ 22) n n + 1 → am_W E C (am_MQ E C (fun v μ' => v = none ∧ ∃ h, μ' = mo μ h (pw n) (upN kd (mm_I μ 22) (mm_I μ 23) n)) (rmX0_count).cells (rmX0_count).slots) (mo μ h (pw n) (smL h (rch kd (mm_I μ 22) (mm_I μ 23) n n) d)) 0 0 111 [some (.ref 21), some (.int kd), some (.int (nI (mst kd (mm_I μ 22) n n))), some (.int (nI (rch kd (mm_I μ 22) (mm_I μ 23) n n))), some (.int (nI (rch kd (mm_I μ 22) (mm_I μ 23) n n + d))), none] [] := by
          intro mz
          induction mz using Nat.strongRecOn with
          | ind mz ih =>
            intro d hz2 hd2
            have hb3 : Bs (mo μ h (pw n) (smL h (rch kd (mm_I μ 22) (mm_I μ 23) n n) d)) := hb.fr (Fr.mo _ _ _ _)
            refine am_iload fx dX0_count_111 rfl ?_
            refine am_iload_n fx dX0_count_113 rfl ?_
            refine am_icmp_gt fx 139 dX0_count_114 (by decide) (fun c114 => ?_) (fun c114 => ?_)
            · try simp (disch := omega) only [bz_0, Classical.not_not, Int32.not_le, Int32.not_lt, Nat.not_le, Nat.not_lt, nI_leI, nI_ltI, nI_eq, nI_le0, nI_lt0] at c114
              exact am_vret fx dX0_count_139 ⟨rfl, h, by rw [upN, smL_congr (fun t ht => (hh _ (by omega)).symm), show d = mst kd (mm_I μ 22) n n + 1 - rch kd (mm_I μ 22) (mm_I μ 23) n n by omega]⟩
            · try simp (disch := omega) only [bz_0, Classical.not_not, Int32.not_le, Int32.not_lt, Nat.not_le, Nat.not_lt, nI_leI, nI_ltI, nI_eq, nI_le0, nI_lt0] at c114
              refine am_aload_n fx dX0_count_117 rfl ?_
              refine am_dup_ref fx dX0_count_118 ?_
              refine am_getL fx dX0_count_119 fkX0_27 (by decide) (by decide) rfl (so0 hb3) (show _ = smL h (rch kd (mm_I μ 22) (mm_I μ 23) n n) d from rfl) ?_
              refine am_aload_n fx dX0_count_122 rfl ?_
              refine am_getR fx dX0_count_123 fkX0_19 (by decide) (by decide) rfl (so0 hb3) (rf0_2 hb3) ?_
              refine am_iload fx dX0_count_126 rfl ?_
              refine am_lald  fx dX0_count_128 (sa0_2 hb3) rfl (by omega) (by decide) (show _ = h (rch kd (mm_I μ 22) (mm_I μ 23) n n + d) from rfl) ?_
              refine am_ladd fx dX0_count_129 ?_
              refine am_putL fx dX0_count_130 fkX0_27 (by decide) (by decide) rfl rfl (so0 hb3) ?_
              first | refine am_iinc fx dX0_count_133 rfl (nI_inc _) (by decide) rfl ?_ | refine am_iinc fx dX0_count_133 rfl rfl (by decide) rfl ?_
              refine am_goto fx 111 dX0_count_136 (by decide) ?_
              exact am_mem (by rw [mo_s4]; rfl) (ih (mst kd (mm_I μ 22) n n + 1 - (rch kd (mm_I μ 22) (mm_I μ 23) n n + (d + 1))) (by omega) (d + 1) rfl (by omega))
        refine am_sub [true, true, true, true, true, false] rfl ?_
        refine am_mem (show _ = mo μ h (pw n) (smL h (rch kd (mm_I μ 22) (mm_I μ 23) n n) 0) from mo_s4 _ _ _ _ _) ?_
        exact lp111 _ 0 rfl (by omega)
      · try simp (disch := omega) only [bz_0, Classical.not_not, Int32.not_le, Int32.not_lt, Nat.not_le, Nat.not_lt, nI_leI, nI_ltI, nI_eq, nI_le0, nI_lt0] at c33
        have ct50 : ∀ (wv : Int32), wv = nI (odw kd (mm_I μ 22) n r) → am_W E C (am_MQ E C (fun v μ' => v = none ∧ ∃ h, μ' = mo μ h (pw n) (upN kd (mm_I μ 22) (mm_I μ 23) n)) (rmX0_count).cells (rmX0_count).slots) (mo μ h (pw r) (mm_L μ 21 4)) 0 0 50 [some (.ref 21), some (.int kd), some (.int (nI (mst kd (mm_I μ 22) n r))), some (.int (nI (rch kd (mm_I μ 22) (mm_I μ 23) n r))), some (.int (nI r)), none] [.int wv] := by
          intro wv hwv
          refine am_istore fx dX0_count_50 (by decide) rfl ?_
          subst hwv
          have hm2 := mst_top kd (mm_I μ 22) (show r + 1 ≤ n by omega) h24
          have hm3 : mst kd (mm_I μ 22) n r + odw kd (mm_I μ 22) n r = mst kd (mm_I μ 22) n (r + 1) := rfl
          have hp1 := odw_pos kd (mm_I μ 22) n r
          refine am_iload_n fx dX0_count_52 rfl ?_
          refine am_iload fx dX0_count_53 rfl ?_
          refine am_iadd fx dX0_count_55 ?_
          refine am_topi (nI_add _ _) ?_
          refine am_sipush (v := (nI 600)) fx dX0_count_56 (by decide) ?_
          refine am_mmin fx dX0_count_59 moX0_49 kw_smin knJ9 kw_cmin ⟨by decide, Nat.le_of_ble_eq_true rfl, Nat.le_of_ble_eq_true rfl, Nat.le_of_ble_eq_true rfl⟩ (show _ = nI (mst kd (mm_I μ 22) n (r + 1)) by rw [if_neg (by rw [nI_ltI (by omega) (by omega)]; omega)]; rfl) ?_
          refine am_istore_n fx dX0_count_62 (by decide) rfl ?_
          refine am_aload_n fx dX0_count_63 rfl ?_
          refine am_iload fx dX0_count_64 rfl ?_
          refine am_iload_n fx dX0_count_66 rfl ?_
          refine am_callV fx dX0_count_67 mkX0_53 (ct_X0_addSign hb2 _ _ hp1 (by omega) (by omega)) (so0 hb2) ⟨by decide, rfl⟩ rfl (Nat.le_of_ble_eq_true rfl) ⟨by decide, by decide⟩ ⟨Nat.le_of_ble_eq_true rfl, Nat.le_of_ble_eq_true rfl⟩ rfl ?_
          rintro _ _ ⟨rfl, rfl⟩
          refine am_aload_n fx dX0_count_70 rfl ?_
          have hb4 : Bs (mm_fL (mo μ h (pw r) (mm_L μ 21 4)) 24 (asg (mm_L (mo μ h (pw r) (mm_L μ 21 4)) 24) (odw kd (mm_I μ 22) n r) (mst kd (mm_I μ 22) n (r + 1)))) := hb2.fr (Fr.fL _ _ _)
          have hh2 : ∀ t, t < 601 → asg (mm_L (mo μ h (pw r) (mm_L μ 21 4)) 24) (odw kd (mm_I μ 22) n r) (mst kd (mm_I μ 22) n (r + 1)) t = wy kd (mm_I μ 22) n (r + 1) t := asg_in hh
          have em : nI (mst kd (mm_I μ 22) n (r + 1)) = nI (mst kd (mm_I μ 22) n (r + 1)) := rfl
          refine am_getR fx dX0_count_71 fkX0_15 (by decide) (by decide) rfl (so0 hb4) (rf0_1 hb4) ?_
          refine am_iload fx dX0_count_74 rfl ?_
          refine am_zald  fx dX0_count_76 (sa0_1 hb4) rfl (by omega) (by decide) (show _ = mm_I μ 23 r from rfl) ?_
          refine am_if_eq fx 85 dX0_count_77 (by decide) (fun c77 => ?_) (fun c77 => ?_)
          · try simp (disch := omega) only [bz_0, Classical.not_not, Int32.not_le, Int32.not_lt, Nat.not_le, Nat.not_lt, nI_leI, nI_ltI, nI_eq, nI_le0, nI_lt0] at c77
            have er : rch kd (mm_I μ 22) (mm_I μ 23) n (r + 1) = rch kd (mm_I μ 22) (mm_I μ 23) n r := by rw [rch, if_pos c77]; rfl
            refine am_aload_n fx dX0_count_85 rfl ?_
            refine am_dup_ref fx dX0_count_86 ?_
            refine am_getL fx dX0_count_87 fkX0_31 (by decide) (by decide) rfl (so0 hb4) (show _ = pw r from rfl) ?_
            refine am_ldc2 fx dX0_count_90 kdX0_57 ?_
            refine am_lmul fx dX0_count_93 ?_
            refine am_putL fx dX0_count_94 fkX0_31 (by decide) (by decide) rfl rfl (so0 hb4) ?_
            first | refine am_iinc fx dX0_count_97 rfl (nI_inc _) (by decide) rfl ?_ | refine am_iinc fx dX0_count_97 rfl rfl (by decide) rfl ?_
            refine am_goto fx 27 dX0_count_100 (by decide) ?_
            refine am_sub [true, true, true, true, true, false] rfl ?_
            exact am_mem (by rw [mo_fL, mo_s5]; rfl) (er ▸ ih (n - (r + 1)) (by omega) (r + 1) _ rfl (by omega) hh2)
          · try simp (disch := omega) only [bz_0, Classical.not_not, Int32.not_le, Int32.not_lt, Nat.not_le, Nat.not_lt, nI_leI, nI_ltI, nI_eq, nI_le0, nI_lt0] at c77
            have er : rch kd (mm_I μ 22) (mm_I μ 23) n (r + 1) = rch kd (mm_I μ 22) (mm_I μ 23) n r + odw kd (mm_I μ 22) n r := by rw [rch, if_neg c77]
            refine am_iload_n fx dX0_count_80 rfl ?_
            refine am_iload fx dX0_count_81 rfl ?_
            refine am_iadd fx dX0_count_83 ?_
            refine am_topi (nI_add _ _) ?_
            refine am_istore_n fx dX0_count_84 (by decide) rfl ?_
            refine am_aload_n fx dX0_count_85 rfl ?_
            refine am_dup_ref fx dX0_count_86 ?_
            refine am_getL fx dX0_count_87 fkX0_31 (by decide) (by decide) rfl (so0 hb4) (show _ = pw r from rfl) ?_
            refine am_ldc2 fx dX0_count_90 kdX0_57 ?_
            refine am_lmul fx dX0_count_93 ?_
            refine am_putL fx dX0_count_94 fkX0_31 (by decide) (by decide) rfl rfl (so0 hb4) ?_
            first | refine am_iinc fx dX0_count_97 rfl (nI_inc _) (by decide) rfl ?_ | refine am_iinc fx dX0_count_97 rfl rfl (by decide) rfl ?_
            refine am_goto fx 27 dX0_count_100 (by decide) ?_
            refine am_sub [true, true, true, true, true, false] rfl ?_
            exact am_mem (by rw [mo_fL, mo_s5]; rfl) (er ▸ ih (n - (r + 1)) (by omega) (r + 1) _ rfl (by omega) hh2)
        refine am_iload_n fx dX0_count_36 rfl ?_
        refine am_if_ne fx 44 dX0_count_37 (by decide) (fun c37 => ?_) (fun c37 => ?_)
        · try simp (disch := omega) only [bz_0, Classical.not_not, Int32.not_le, Int32.not_lt, Nat.not_le, Nat.not_lt, nI_leI, nI_ltI, nI_eq, nI_le0, nI_lt0] at c37
          refine am_aload_n fx dX0_count_44 rfl ?_
          refine am_iload fx dX0_count_45 rfl ?_
          refine am_callV fx dX0_count_47 mkX0_46 (ct_X0_weightOf hb2 hn h24 r (by omega)) (so0 hb2) ⟨by decide, rfl⟩ rfl (Nat.le_of_ble_eq_true rfl) ⟨by decide, by decide⟩ ⟨Nat.le_of_ble_eq_true rfl, Nat.le_of_ble_eq_true rfl⟩ rfl ?_
          rintro _ _ ⟨rfl, rfl⟩
          exact ct50 _ (by rw [odw, if_neg c37]; rfl)
        · try simp (disch := omega) only [bz_0, Classical.not_not, Int32.not_le, Int32.not_lt, Nat.not_le, Nat.not_lt, nI_leI, nI_ltI, nI_eq, nI_le0, nI_lt0] at c37
          refine am_iconst (v := 1) fx dX0_count_40 (by decide) ?_
          refine am_goto fx 50 dX0_count_41 (by decide) ?_
          exact ct50 _ (by rw [odw, if_pos c37]; rfl)
  refine am_sub [true, true, true, true, true, false] rfl ?_
  refine am_mem (show _ = mo μ (vp_updL (flL 0 (mm_L μ 24) 601) 0 1) (pw 0) (mm_L μ 21 4) from ?_) ?_
  · conv => lhs; rw [← mo_self μ]
    simp only [mo_fL, mo_s24, mo_s5, mL_mo, if_true]
    rfl
  exact lp27 _ 0 _ rfl (by omega) (fun t ht => by simp only [vp_updL, flL, wy]; split <;> simp_all)
theorem lg_le0 (x y : Int64) : lg_cmp x y ≤ 0 ↔ ¬ y < x := by
  unfold lg_cmp
  by_cases h : y < x
  · rw [if_pos h]; exact ⟨fun q => absurd q (by decide), fun q => absurd h q⟩
  · rw [if_neg h]
    refine ⟨fun _ => h, fun _ => ?_⟩
    split <;> decide
set_option maxRecDepth 100000 in
set_option maxHeartbeats 4000000 in
theorem ct_X0_areAbove {E : am_E} {μ : am_M} (hb : Bs μ) (u d : Int32) : am_Ct E yX0_areAbove cX0_areAbove 3 (some .boolean) rmX0_areAbove [.ref 21, .int u, .int d] μ (fun v μ' => v = some (.int (bz (u.toInt64 * mm_L μ 21 5 < mm_L μ 21 4 * d.toInt64))) ∧ μ = μ') := by
  refine am_Ct.of (ls := [some (.ref 21), some (.int u), some (.int d)]) (by decide) (Nat.le_of_ble_eq_true rfl) rfl (fun C fx hnm => ?_)
  refine am_aload_n fx dX0_areAbove_0 rfl ?_
  refine am_getL fx dX0_areAbove_1 fkX0_27 (by decide) (by decide) rfl (so0 hb) rfl ?_
  refine am_iload_n fx dX0_areAbove_4 rfl ?_
  refine am_i2l fx dX0_areAbove_5 rfl ?_
  refine am_lmul fx dX0_areAbove_6 ?_
  refine am_iload_n fx dX0_areAbove_7 rfl ?_
  refine am_i2l fx dX0_areAbove_8 rfl ?_
  refine am_aload_n fx dX0_areAbove_9 rfl ?_
  refine am_getL fx dX0_areAbove_10 fkX0_31 (by decide) (by decide) rfl (so0 hb) rfl ?_
  refine am_lmul fx dX0_areAbove_13 ?_
  refine am_lcmp fx dX0_areAbove_14 ?_
  refine am_if_le fx 22 dX0_areAbove_15 (by decide) (fun c15 => ?_) (fun c15 => ?_)
  · skip
    have c15 := (lg_le0 _ _).mp c15
    refine am_iconst (v := 0) fx dX0_areAbove_22 (by decide) ?_
    exact am_zret fx dX0_areAbove_23 (by first | exact Or.inl rfl | exact Or.inr rfl | exact bz_01) ⟨congrArg (fun z => some (Value.int z)) (by first | exact bz_t c15 | exact bz_f c15), rfl⟩
  · skip
    have c15 := Classical.not_not.mp (fun z => c15 ((lg_le0 _ _).mpr z))
    refine am_iconst (v := 1) fx dX0_areAbove_18 (by decide) ?_
    refine am_goto fx 23 dX0_areAbove_19 (by decide) ?_
    exact am_zret fx dX0_areAbove_23 (by first | exact Or.inl rfl | exact Or.inr rfl | exact bz_01) ⟨congrArg (fun z => some (Value.int z)) (by first | exact bz_t c15 | exact bz_f c15), rfl⟩
set_option maxRecDepth 100000 in
set_option maxHeartbeats 4000000 in
theorem ct_X0_addRound {E : am_E} {μ : am_M} (hb : Bs μ) {n : Nat} (hn : mm_I μ 21 3 = nI n) (h24 : n < 24) (a b : Int32) : am_Ct E yX0_addRound cX0_addRound 3 none rmX0_addRound [.ref 21, .int a, .int b] μ (fun v μ' => v = none ∧ μ' = (if a = b then μ else mm_sI (mm_sI (mm_sI μ 22 n (ab (a - b))) 23 n (bz (a < b))) 21 3 (nI (n + 1)))) := by
  refine am_Ct.of (ls := [some (.ref 21), some (.int a), some (.int b)]) (by decide) (Nat.le_of_ble_eq_true rfl) rfl (fun C fx hnm => ?_)
  refine am_iload_n fx dX0_addRound_0 rfl ?_
  refine am_iload_n fx dX0_addRound_1 rfl ?_
  refine am_icmp_eq fx 58 dX0_addRound_2 (by decide) (fun c2 => ?_) (fun c2 => ?_)
  · try simp (disch := omega) only [bz_0, Classical.not_not, Int32.not_le, Int32.not_lt, Nat.not_le, Nat.not_lt, nI_leI, nI_ltI, nI_eq, nI_le0, nI_lt0] at c2
    refine am_vret fx dX0_addRound_58 ⟨rfl, (if_pos c2).symm⟩
  · try simp (disch := omega) only [bz_0, Classical.not_not, Int32.not_le, Int32.not_lt, Nat.not_le, Nat.not_lt, nI_leI, nI_ltI, nI_eq, nI_le0, nI_lt0] at c2
    refine am_aload_n fx dX0_addRound_5 rfl ?_
    refine am_getI fx dX0_addRound_6 fkX0_23 (by decide) (by decide) rfl (so0 hb) hn ?_
    refine am_bipush (v := (nI 24)) fx dX0_addRound_9 (by decide) ?_
    refine am_icmp_ge fx 58 dX0_addRound_11 (by decide) (fun c11 => ?_) (fun c11 => ?_)
    · try simp (disch := omega) only [bz_0, Classical.not_not, Int32.not_le, Int32.not_lt, Nat.not_le, Nat.not_lt, nI_leI, nI_ltI, nI_eq, nI_le0, nI_lt0] at c11
      exact absurd c11 (by omega)
    · try simp (disch := omega) only [bz_0, Classical.not_not, Int32.not_le, Int32.not_lt, Nat.not_le, Nat.not_lt, nI_leI, nI_ltI, nI_eq, nI_le0, nI_lt0] at c11
      refine am_aload_n fx dX0_addRound_14 rfl ?_
      refine am_getR fx dX0_addRound_15 fkX0_9 (by decide) (by decide) rfl (so0 hb) (rf0_0 hb) ?_
      refine am_aload_n fx dX0_addRound_18 rfl ?_
      refine am_getI fx dX0_addRound_19 fkX0_23 (by decide) (by decide) rfl (so0 hb) hn ?_
      refine am_iload_n fx dX0_addRound_22 rfl ?_
      refine am_iload_n fx dX0_addRound_23 rfl ?_
      refine am_isub fx dX0_addRound_24 ?_
      refine am_mabs fx dX0_addRound_25 moX0_34 kw_sabs knJ9 kw_cabs ⟨by decide, Nat.le_of_ble_eq_true rfl, Nat.le_of_ble_eq_true rfl, Nat.le_of_ble_eq_true rfl⟩ (rfl : _ = ab (a - b)) ?_
      refine am_iast  fx dX0_addRound_28 (sa0_0 hb) rfl (by omega) (by decide) ?_
      refine am_aload_n fx dX0_addRound_29 rfl ?_
      refine am_getR fx dX0_addRound_30 fkX0_15 (by decide) (by decide) rfl (so0 hb) (rf0_1 hb) ?_
      refine am_aload_n fx dX0_addRound_33 rfl ?_
      refine am_getI fx dX0_addRound_34 fkX0_23 (by decide) (by decide) rfl (so0 hb) hn ?_
      refine am_iload_n fx dX0_addRound_37 rfl ?_
      refine am_iload_n fx dX0_addRound_38 rfl ?_
      refine am_icmp_ge fx 46 dX0_addRound_39 (by decide) (fun c39 => ?_) (fun c39 => ?_)
      · try simp (disch := omega) only [bz_0, Classical.not_not, Int32.not_le, Int32.not_lt, Nat.not_le, Nat.not_lt, nI_leI, nI_ltI, nI_eq, nI_le0, nI_lt0] at c39
        refine am_iconst (v := 0) fx dX0_addRound_46 (by decide) ?_
        refine am_topi (bz_f (P := a < b) (Int32.not_lt.mpr c39)) ?_
        refine am_zast  fx dX0_addRound_47 (sa0_1 hb) rfl (by omega) (by decide) (by first | exact Or.inl rfl | exact Or.inr rfl | exact bz_01) ?_
        refine am_aload_n fx dX0_addRound_48 rfl ?_
        refine am_dup_ref fx dX0_addRound_49 ?_
        refine am_getI fx dX0_addRound_50 fkX0_23 (by decide) (by decide) rfl (so0 hb) hn ?_
        refine am_iconst (v := 1) fx dX0_addRound_53 (by decide) ?_
        refine am_iadd fx dX0_addRound_54 ?_
        refine am_topi (nI_1 n) ?_
        refine am_putI fx dX0_addRound_55 fkX0_23 (by decide) (by decide) rfl rfl (so0 hb) ?_
        exact am_vret fx dX0_addRound_58 ⟨rfl, (if_neg c2).symm⟩
      · try simp (disch := omega) only [bz_0, Classical.not_not, Int32.not_le, Int32.not_lt, Nat.not_le, Nat.not_lt, nI_leI, nI_ltI, nI_eq, nI_le0, nI_lt0] at c39
        refine am_iconst (v := 1) fx dX0_addRound_42 (by decide) ?_
        refine am_topi (bz_t (P := a < b) c39) ?_
        refine am_goto fx 47 dX0_addRound_43 (by decide) ?_
        refine am_zast  fx dX0_addRound_47 (sa0_1 hb) rfl (by omega) (by decide) (by first | exact Or.inl rfl | exact Or.inr rfl | exact bz_01) ?_
        refine am_aload_n fx dX0_addRound_48 rfl ?_
        refine am_dup_ref fx dX0_addRound_49 ?_
        refine am_getI fx dX0_addRound_50 fkX0_23 (by decide) (by decide) rfl (so0 hb) hn ?_
        refine am_iconst (v := 1) fx dX0_addRound_53 (by decide) ?_
        refine am_iadd fx dX0_addRound_54 ?_
        refine am_topi (nI_1 n) ?_
        refine am_putI fx dX0_addRound_55 fkX0_23 (by decide) (by decide) rfl rfl (so0 hb) ?_
        exact am_vret fx dX0_addRound_58 ⟨rfl, (if_neg c2).symm⟩
