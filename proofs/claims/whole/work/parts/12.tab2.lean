/-! a whole array anew -/
def mm_fI (μ : am_M) (a : Nat) (g : Nat → Int32) : am_M := (μ.1, fun a' k' => if a' = a then g k' else μ.2.1 a' k', μ.2.2.1, μ.2.2.2.1, μ.2.2.2.2)
def mm_fL (μ : am_M) (a : Nat) (g : Nat → Int64) : am_M := (μ.1, μ.2.1, fun a' k' => if a' = a then g k' else μ.2.2.1 a' k', μ.2.2.2.1, μ.2.2.2.2)
theorem mI_fI (μ : am_M) (a : Nat) (g : Nat → Int32) (a' k' : Nat) : mm_I (mm_fI μ a g) a' k' = if a' = a then g k' else mm_I μ a' k' := rfl
theorem mL_fL (μ : am_M) (a : Nat) (g : Nat → Int64) (a' k' : Nat) : mm_L (mm_fL μ a g) a' k' = if a' = a then g k' else mm_L μ a' k' := rfl
theorem mI_fL (μ : am_M) (a : Nat) (g : Nat → Int64) : mm_I (mm_fL μ a g) = mm_I μ := rfl
theorem mL_fI (μ : am_M) (a : Nat) (g : Nat → Int32) : mm_L (mm_fI μ a g) = mm_L μ := rfl
theorem mI_fIs (μ : am_M) (a : Nat) (g : Nat → Int32) (k : Nat) : mm_I (mm_fI μ a g) a k = g k := by rw [mI_fI, if_pos rfl]
theorem mI_fIn {μ : am_M} {a a' : Nat} {g : Nat → Int32} {k : Nat} (h : a' ≠ a) : mm_I (mm_fI μ a g) a' k = mm_I μ a' k := by rw [mI_fI, if_neg h]
theorem mL_fLs (μ : am_M) (a : Nat) (g : Nat → Int64) (k : Nat) : mm_L (mm_fL μ a g) a k = g k := by rw [mL_fL, if_pos rfl]
theorem mL_fLn {μ : am_M} {a a' : Nat} {g : Nat → Int64} {k : Nat} (h : a' ≠ a) : mm_L (mm_fL μ a g) a' k = mm_L μ a' k := by rw [mL_fL, if_neg h]
theorem am_ext {μ ν : am_M} (hS : mm_S μ = mm_S ν) (hI : ∀ a k, mm_I μ a k = mm_I ν a k) (hL : ∀ a k, mm_L μ a k = mm_L ν a k) (hR : mm_R μ = mm_R ν) (hZ : mm_Z μ = mm_Z ν) : μ = ν := by
  obtain ⟨a, b, c, d, e⟩ := μ
  obtain ⟨a', b', c', d', e'⟩ := ν
  have h1 : a = a' := hS
  have h2 : b = b' := funext fun x => funext fun y => hI x y
  have h3 : c = c' := funext fun x => funext fun y => hL x y
  have h4 : d = d' := hR
  have h5 : e = e' := hZ
  subst h1; subst h2; subst h3; subst h4; subst h5
  rfl
theorem fI_self (μ : am_M) (a : Nat) : mm_fI μ a (mm_I μ a) = μ := am_ext rfl (fun a' k => by rw [mI_fI]; split <;> simp_all) (fun _ _ => rfl) rfl rfl
theorem fL_self (μ : am_M) (a : Nat) : mm_fL μ a (mm_L μ a) = μ := am_ext rfl (fun _ _ => rfl) (fun a' k => by rw [mL_fL]; split <;> simp_all) rfl rfl
theorem sI_fI (μ : am_M) (a k : Nat) (g : Nat → Int32) (v : Int32) : mm_sI (mm_fI μ a g) a k v = mm_fI μ a (upd g k v) := am_ext rfl (fun a' k' => by rw [mI_sI, mI_fI, mI_fI]; by_cases h : a' = a <;> by_cases h2 : k' = k <;> simp [h, h2, upd]) (fun _ _ => rfl) rfl rfl
theorem sI_up (μ : am_M) (a k : Nat) (v : Int32) : mm_sI μ a k v = mm_fI μ a (upd (mm_I μ a) k v) := am_ext rfl (fun a' k' => by rw [mI_sI, mI_fI]; by_cases h : a' = a <;> by_cases h2 : k' = k <;> simp [h, h2, upd]) (fun _ _ => rfl) rfl rfl
theorem sL_fL (μ : am_M) (a k : Nat) (g : Nat → Int64) (v : Int64) : mm_sL (mm_fL μ a g) a k v = mm_fL μ a (vp_updL g k v) := am_ext rfl (fun _ _ => rfl) (fun a' k' => by rw [mL_sL, mL_fL, mL_fL]; by_cases h : a' = a <;> by_cases h2 : k' = k <;> simp [h, h2, vp_updL]) rfl rfl
theorem fI_fI (μ : am_M) (a : Nat) (g h : Nat → Int32) : mm_fI (mm_fI μ a g) a h = mm_fI μ a h := am_ext rfl (fun a' k' => by rw [mI_fI, mI_fI, mI_fI]; by_cases h : a' = a <;> simp [h]) (fun _ _ => rfl) rfl rfl
theorem Fr.fI (μ : am_M) (a : Nat) (g : Nat → Int32) : Fr μ (mm_fI μ a g) := ⟨rfl, rfl, rfl⟩
theorem Fr.sI (μ : am_M) (a k : Nat) (v : Int32) : Fr μ (mm_sI μ a k v) := ⟨rfl, rfl, rfl⟩
theorem Fr.fL (μ : am_M) (a : Nat) (g : Nat → Int64) : Fr μ (mm_fL μ a g) := ⟨rfl, rfl, rfl⟩
theorem Fr.sL (μ : am_M) (a k : Nat) (v : Int64) : Fr μ (mm_sL μ a k v) := ⟨rfl, rfl, rfl⟩
/-- the first r places hold x -/
def flI (x : Int32) (g : Nat → Int32) (r : Nat) : Nat → Int32 := fun k => if k < r then x else g k
def flL (x : Int64) (g : Nat → Int64) (r : Nat) : Nat → Int64 := fun k => if k < r then x else g k
theorem flI_s (x : Int32) (g : Nat → Int32) (r : Nat) : upd (flI x g r) r x = flI x g (r + 1) := by
  funext k
  simp only [upd, flI]
  by_cases h : k = r
  · simp [h]
  · by_cases h2 : k < r
    · simp [h, h2, Nat.lt_succ_of_lt h2]
    · rw [if_neg h, if_neg h2, if_neg (by omega)]
theorem flL_s (x : Int64) (g : Nat → Int64) (r : Nat) : vp_updL (flL x g r) r x = flL x g (r + 1) := by
  funext k
  simp only [vp_updL, flL]
  by_cases h : k = r
  · simp [h]
  · by_cases h2 : k < r
    · simp [h, h2, Nat.lt_succ_of_lt h2]
    · rw [if_neg h, if_neg h2, if_neg (by omega)]
theorem flI_0 (x : Int32) (g : Nat → Int32) : flI x g 0 = g := by funext k; simp [flI]
theorem flL_0 (x : Int64) (g : Nat → Int64) : flL x g 0 = g := by funext k; simp [flL]
set_option maxRecDepth 100000 in
set_option maxHeartbeats 4000000 in
theorem ct_J7_fill_53178 {E : am_E} {μ : am_M} {a N : Nat} (hs : mm_S μ a = (8, N)) (hN : N < 65536) (x : Int32) : am_Ct E yJ7_fill_53178 cJ7_fill_53178 4 none rmJ7_fill_53178 [.ref a, .int x] μ (fun v μ' => v = none ∧ μ' = mm_fI μ a (flI x (mm_I μ a) N)) := by
  refine am_Ct.of (ls := [some (.ref a), some (.int x), none, none]) (by decide) (Nat.le_of_ble_eq_true rfl) rfl (fun C fx hnm => ?_)
  refine am_iconst (v := 0) fx dJ7_fill_53178_0 (by decide) ?_
  refine am_istore_n fx dJ7_fill_53178_1 (by decide) rfl ?_
  refine am_aload_n fx dJ7_fill_53178_2 rfl ?_
  refine am_alen fx dJ7_fill_53178_3 hs (by decide) rfl ?_
  refine am_istore_n fx dJ7_fill_53178_4 (by decide) rfl ?_
  have lp5 : ∀ (mz : Nat) (r : Nat), N - r = mz → r ≤ N → am_W E C (am_MQ E C (fun v μ' => v = none ∧ μ' = mm_fI μ a (flI x (mm_I μ a) N)) (rmJ7_fill_53178).cells (rmJ7_fill_53178).slots) (mm_fI μ a (flI x (mm_I μ a) r)) 0 0 5 [some (.ref a), some (.int x), some (.int (nI r)), some (.int (nI N))] [] := by
    intro mz
    induction mz using Nat.strongRecOn with
    | ind mz ih =>
      intro r hn hr
      refine am_iload_n fx dJ7_fill_53178_5 rfl ?_
      refine am_iload_n fx dJ7_fill_53178_6 rfl ?_
      refine am_icmp_ge fx 20 dJ7_fill_53178_7 (by decide) (fun c7 => ?_) (fun c7 => ?_)
      · try simp (disch := omega) only [bz_0, Classical.not_not, Int32.not_le, Int32.not_lt, Nat.not_le, Nat.not_lt, nI_leI, nI_ltI, nI_eq, nI_le0, nI_lt0] at c7
        exact am_vret fx dJ7_fill_53178_20 ⟨rfl, by rw [show r = N by omega]⟩
      · try simp (disch := omega) only [bz_0, Classical.not_not, Int32.not_le, Int32.not_lt, Nat.not_le, Nat.not_lt, nI_leI, nI_ltI, nI_eq, nI_le0, nI_lt0] at c7
        refine am_aload_n fx dJ7_fill_53178_10 rfl ?_
        refine am_iload_n fx dJ7_fill_53178_11 rfl ?_
        refine am_iload_n fx dJ7_fill_53178_12 rfl ?_
        refine am_iast  fx dJ7_fill_53178_13 hs rfl (by omega) (by omega) ?_
        first | refine am_iinc fx dJ7_fill_53178_14 rfl (nI_inc _) (by decide) rfl ?_ | refine am_iinc fx dJ7_fill_53178_14 rfl rfl (by decide) rfl ?_
        refine am_goto fx 5 dJ7_fill_53178_17 (by decide) ?_
        exact am_mem (by rw [sI_fI, flI_s]) (ih (N - (r + 1)) (by omega) (r + 1) rfl (by omega))
  refine am_mem (show μ = mm_fI μ a (flI x (mm_I μ a) 0) by rw [flI_0, fI_self]) ?_
  exact lp5 _ 0 rfl (by omega)
set_option maxRecDepth 100000 in
set_option maxHeartbeats 4000000 in
theorem ct_J7_fill_d0a16 {E : am_E} {μ : am_M} {a N : Nat} (hs : mm_S μ a = (9, N)) (hN : N < 65536) (x : Int64) : am_Ct E yJ7_fill_d0a16 cJ7_fill_d0a16 5 none rmJ7_fill_d0a16 [.ref a, .long x] μ (fun v μ' => v = none ∧ μ' = mm_fL μ a (flL x (mm_L μ a) N)) := by
  refine am_Ct.of (ls := [some (.ref a), some (.long x), none, none, none]) (by decide) (Nat.le_of_ble_eq_true rfl) rfl (fun C fx hnm => ?_)
  refine am_iconst (v := 0) fx dJ7_fill_d0a16_0 (by decide) ?_
  refine am_istore_n fx dJ7_fill_d0a16_1 (by decide) rfl ?_
  refine am_aload_n fx dJ7_fill_d0a16_2 rfl ?_
  refine am_alen fx dJ7_fill_d0a16_3 hs (by decide) rfl ?_
  refine am_istore fx dJ7_fill_d0a16_4 (by decide) rfl ?_
  have lp6 : ∀ (mz : Nat) (r : Nat), N - r = mz → r ≤ N → am_W E C (am_MQ E C (fun v μ' => v = none ∧ μ' = mm_fL μ a (flL x (mm_L μ a) N)) (rmJ7_fill_d0a16).cells (rmJ7_fill_d0a16).slots) (mm_fL μ a (flL x (mm_L μ a) r)) 0 0 6 [some (.ref a), some (.long x), none, some (.int (nI r)), some (.int (nI N))] [] := by
    intro mz
    induction mz using Nat.strongRecOn with
    | ind mz ih =>
      intro r hn hr
      refine am_iload_n fx dJ7_fill_d0a16_6 rfl ?_
      refine am_iload fx dJ7_fill_d0a16_7 rfl ?_
      refine am_icmp_ge fx 22 dJ7_fill_d0a16_9 (by decide) (fun c9 => ?_) (fun c9 => ?_)
      · try simp (disch := omega) only [bz_0, Classical.not_not, Int32.not_le, Int32.not_lt, Nat.not_le, Nat.not_lt, nI_leI, nI_ltI, nI_eq, nI_le0, nI_lt0] at c9
        exact am_vret fx dJ7_fill_d0a16_22 ⟨rfl, by rw [show r = N by omega]⟩
      · try simp (disch := omega) only [bz_0, Classical.not_not, Int32.not_le, Int32.not_lt, Nat.not_le, Nat.not_lt, nI_leI, nI_ltI, nI_eq, nI_le0, nI_lt0] at c9
        refine am_aload_n fx dJ7_fill_d0a16_12 rfl ?_
        refine am_iload_n fx dJ7_fill_d0a16_13 rfl ?_
        refine am_lload_n fx dJ7_fill_d0a16_14 rfl ?_
        refine am_last  fx dJ7_fill_d0a16_15 hs rfl (by omega) (by omega) ?_
        first | refine am_iinc fx dJ7_fill_d0a16_16 rfl (nI_inc _) (by decide) rfl ?_ | refine am_iinc fx dJ7_fill_d0a16_16 rfl rfl (by decide) rfl ?_
        refine am_goto fx 6 dJ7_fill_d0a16_19 (by decide) ?_
        exact am_mem (by rw [sL_fL, flL_s]) (ih (N - (r + 1)) (by omega) (r + 1) rfl (by omega))
  refine am_mem (show μ = mm_fL μ a (flL x (mm_L μ a) 0) by rw [flL_0, fL_self]) ?_
  exact lp6 _ 0 rfl (by omega)
/-- the first of those with p that has the least c, among the first k -/
def am1 (p : Nat → Bool) (c : Nat → Int32) : Nat → Option Nat
  | 0 => none
  | k + 1 => match am1 p c k with
    | none => if p k = true then some k else none
    | some b => if p k = true ∧ c k < c b then some k else some b
def enO (d : Int32) : Option Nat → Int32
  | none => d
  | some k => nI k
def lsO (c : Nat → Int32) : Option Nat → Int32
  | none => 2147483647
  | some b => c b
theorem am1_t {p : Nat → Bool} {c : Nat → Int32} {k : Nat} (hp : p k = true) (h : c k < lsO c (am1 p c k)) : am1 p c (k + 1) = some k := by
  simp only [am1]
  cases hb : am1 p c k with
  | none => simp [hp]
  | some b => rw [hb] at h; simp only [lsO] at h; simp [hp, h]
theorem am1_n {p : Nat → Bool} {c : Nat → Int32} {k : Nat} (hp : ¬ p k = true) : am1 p c (k + 1) = am1 p c k := by
  simp only [am1]
  cases hb : am1 p c k with
  | none => simp [hp]
  | some b => simp [hp]
theorem am1_f {p : Nat → Bool} {c : Nat → Int32} {k : Nat} (hc : c k < 2147483647) (h : lsO c (am1 p c k) ≤ c k) : am1 p c (k + 1) = am1 p c k := by
  simp only [am1]
  cases hb : am1 p c k with
  | none => rw [hb] at h; exact absurd hc (Int32.not_lt.mpr h)
  | some b =>
    rw [hb] at h
    simp only [lsO] at h
    show (if p k = true ∧ c k < c b then some k else some b) = some b
    rw [if_neg (fun q => absurd q.2 (Int32.not_lt.mpr h))]
theorem am1_lt {p : Nat → Bool} {c : Nat → Int32} : ∀ {k b : Nat}, am1 p c k = some b → b < k ∧ p b = true
  | 0, b, h => by cases h
  | k + 1, b, h => by
    simp only [am1] at h
    cases hb : am1 p c k with
    | none =>
      rw [hb] at h
      simp only at h
      split at h
      · cases h; rename_i q; exact ⟨Nat.lt_succ_self _, q⟩
      · cases h
    | some b' =>
      rw [hb] at h
      simp only at h
      split at h
      · cases h; rename_i q; exact ⟨Nat.lt_succ_self _, q.1⟩
      · cases h; have := am1_lt hb; exact ⟨by omega, this.2⟩
theorem am1_congr {p p' : Nat → Bool} {c c' : Nat → Int32} : ∀ {k : Nat}, (∀ j, j < k → p j = p' j ∧ (p j = true → c j = c' j)) → am1 p c k = am1 p' c' k
  | 0, _ => rfl
  | k + 1, h => by
    have ih := am1_congr (k := k) (fun j hj => h j (by omega))
    obtain ⟨h1, h2⟩ := h k (Nat.lt_succ_self k)
    simp only [am1]
    rw [← ih]
    cases hb : am1 p c k with
    | none => simp only [h1]
    | some b =>
      have hbl := am1_lt hb
      have hcb := (h b (by omega)).2 hbl.2
      simp only [← h1, ← hcb]
      by_cases hp : p k = true
      · rw [h2 hp]
      · simp [hp]
set_option maxRecDepth 100000 in
set_option maxHeartbeats 4000000 in
theorem ct_X5_bestOn {E : am_E} {μ : am_M} (hb : Bs μ) {S N : Nat} (ht : Tb μ S N) (i : Nat) (hi : i < N) (hc : ∀ s, s < S → mm_I μ (4 + s) i < 2147483647) : am_Ct E yX5_bestOn cX5_bestOn 5 (some .int) rmX5_bestOn [.ref 2, .int (nI i)] μ (fun v μ' => v = some (.int (enO (-1) (am1 (fun s => decide (mm_I μ 16 s = nI N)) (fun s => mm_I μ (4 + s) i) S))) ∧ μ = μ') := by
  refine am_Ct.of (ls := [some (.ref 2), some (.int (nI i)), none, none, none]) (by decide) (Nat.le_of_ble_eq_true rfl) rfl (fun C fx hnm => ?_)
  have hS := ht.s
  have hN := ht.n
  refine am_iconst (v := (-1)) fx dX5_bestOn_0 (by decide) ?_
  refine am_istore_n fx dX5_bestOn_1 (by decide) rfl ?_
  refine am_ldc fx dX5_bestOn_2 kdX5_56 ?_
  refine am_istore_n fx dX5_bestOn_4 (by decide) rfl ?_
  refine am_iconst (v := 0) fx dX5_bestOn_5 (by decide) ?_
  refine am_istore fx dX5_bestOn_6 (by decide) rfl ?_
  have lp8 : ∀ (mz : Nat) (r : Nat) (x y : Int32), S - r = mz → r ≤ S → x = enO (-1) (am1 (fun s => decide (mm_I μ 16 s = nI N)) (fun s => mm_I μ (4 + s) i) r) → y = lsO (fun s => mm_I μ (4 + s) i) (am1 (fun s => decide (mm_I μ 16 s = nI N)) (fun s => mm_I μ (4 + s) i) r) → am_W E C (am_MQ E C (fun v μ' => v = some (.int (enO (-1) (am1 (fun s => decide (mm_I μ 16 s = nI N)) (fun s => mm_I μ (4 + s) i) S))) ∧ μ = μ') (rmX5_bestOn).cells (rmX5_bestOn).slots) μ 0 0 8 [some (.ref 2), some (.int (nI i)), some (.int x), some (.int y), some (.int (nI r))] [] := by
    intro mz
    induction mz using Nat.strongRecOn with
    | ind mz ih =>
      intro r x y hn hr hx hy
      refine am_iload fx dX5_bestOn_8 rfl ?_
      refine am_aload_n fx dX5_bestOn_10 rfl ?_
      refine am_getI fx dX5_bestOn_11 fkX5_27 (by decide) (by decide) rfl (so5 hb) ht.1 ?_
      refine am_icmp_ge fx 66 dX5_bestOn_14 (by decide) (fun c14 => ?_) (fun c14 => ?_)
      · try simp (disch := omega) only [bz_0, Classical.not_not, Int32.not_le, Int32.not_lt, Nat.not_le, Nat.not_lt, nI_leI, nI_ltI, nI_eq, nI_le0, nI_lt0] at c14
        refine am_iload_n fx dX5_bestOn_66 rfl ?_
        exact am_iret fx dX5_bestOn_67 ⟨by rw [hx, show r = S by omega], rfl⟩
      · try simp (disch := omega) only [bz_0, Classical.not_not, Int32.not_le, Int32.not_lt, Nat.not_le, Nat.not_lt, nI_leI, nI_ltI, nI_eq, nI_le0, nI_lt0] at c14
        refine am_aload_n fx dX5_bestOn_17 rfl ?_
        refine am_iload_n fx dX5_bestOn_18 rfl ?_
        refine am_callV fx dX5_bestOn_19 mkX5_40 (ct_X5_hasInstance hb ht _) (so5 hb) ⟨by decide, rfl⟩ rfl (Nat.le_of_ble_eq_true rfl) ⟨by decide, by decide⟩ ⟨Nat.le_of_ble_eq_true rfl, Nat.le_of_ble_eq_true rfl⟩ rfl ?_
        rintro _ _ ⟨rfl, rfl⟩
        refine am_if_eq fx 66 dX5_bestOn_22 (by decide) (fun c22 => ?_) (fun c22 => ?_)
        · try simp (disch := omega) only [bz_0, Classical.not_not, Int32.not_le, Int32.not_lt, Nat.not_le, Nat.not_lt, nI_leI, nI_ltI, nI_eq, nI_le0, nI_lt0] at c22
          exact absurd ⟨nI_pos' (by omega), hi⟩ c22
        · try simp (disch := omega) only [bz_0, Classical.not_not, Int32.not_le, Int32.not_lt, Nat.not_le, Nat.not_lt, nI_leI, nI_ltI, nI_eq, nI_le0, nI_lt0] at c22
          refine am_aload_n fx dX5_bestOn_25 rfl ?_
          refine am_iload fx dX5_bestOn_26 rfl ?_
          refine am_callV fx dX5_bestOn_28 mkX5_47 (ct_X5_isWhole hb ht _ (by assumption)) (so5 hb) ⟨by decide, rfl⟩ rfl (Nat.le_of_ble_eq_true rfl) ⟨by decide, by decide⟩ ⟨Nat.le_of_ble_eq_true rfl, Nat.le_of_ble_eq_true rfl⟩ rfl ?_
          rintro _ _ ⟨rfl, rfl⟩
          refine am_if_eq fx 60 dX5_bestOn_31 (by decide) (fun c31 => ?_) (fun c31 => ?_)
          · try simp (disch := omega) only [bz_0, Classical.not_not, Int32.not_le, Int32.not_lt, Nat.not_le, Nat.not_lt, nI_leI, nI_ltI, nI_eq, nI_le0, nI_lt0] at c31
            first | refine am_iinc fx dX5_bestOn_60 rfl (nI_inc _) (by decide) rfl ?_ | refine am_iinc fx dX5_bestOn_60 rfl rfl (by decide) rfl ?_
            refine am_goto fx 8 dX5_bestOn_63 (by decide) ?_
            exact ih (S - (r + 1)) (by omega) (r + 1) _ _ rfl (by omega) (by rw [am1_n (p := (fun s => decide (mm_I μ 16 s = nI N))) (c := (fun s => mm_I μ (4 + s) i)) (by simpa using c31)]; exact hx) (by rw [am1_n (p := (fun s => decide (mm_I μ 16 s = nI N))) (c := (fun s => mm_I μ (4 + s) i)) (by simpa using c31)]; exact hy)
          · try simp (disch := omega) only [bz_0, Classical.not_not, Int32.not_le, Int32.not_lt, Nat.not_le, Nat.not_lt, nI_leI, nI_ltI, nI_eq, nI_le0, nI_lt0] at c31
            refine am_aload_n fx dX5_bestOn_34 rfl ?_
            refine am_getR fx dX5_bestOn_35 fkX5_11 (by decide) (by decide) rfl (so5 hb) (rf5_0 hb) ?_
            refine am_iload fx dX5_bestOn_38 rfl ?_
            refine am_aald  fx dX5_bestOn_40 (sa5_0 hb) rfl (by omega) (by decide) (rg5_0 hb (by omega)) ?_
            refine am_iload_n fx dX5_bestOn_41 rfl ?_
            refine am_iald  fx dX5_bestOn_42 (sg5_0 hb (by omega)) rfl (by omega) (by decide) rfl ?_
            refine am_iload_n fx dX5_bestOn_43 rfl ?_
            refine am_icmp_ge fx 60 dX5_bestOn_44 (by decide) (fun c44 => ?_) (fun c44 => ?_)
            · try simp (disch := omega) only [bz_0, Classical.not_not, Int32.not_le, Int32.not_lt, Nat.not_le, Nat.not_lt, nI_leI, nI_ltI, nI_eq, nI_le0, nI_lt0] at c44
              first | refine am_iinc fx dX5_bestOn_60 rfl (nI_inc _) (by decide) rfl ?_ | refine am_iinc fx dX5_bestOn_60 rfl rfl (by decide) rfl ?_
              refine am_goto fx 8 dX5_bestOn_63 (by decide) ?_
              exact ih (S - (r + 1)) (by omega) (r + 1) _ _ rfl (by omega) (by rw [am1_f (p := (fun s => decide (mm_I μ 16 s = nI N))) (c := (fun s => mm_I μ (4 + s) i)) (hc r (by omega)) (by rw [← hy]; exact c44)]; exact hx) (by rw [am1_f (p := (fun s => decide (mm_I μ 16 s = nI N))) (c := (fun s => mm_I μ (4 + s) i)) (hc r (by omega)) (by rw [← hy]; exact c44)]; exact hy)
            · try simp (disch := omega) only [bz_0, Classical.not_not, Int32.not_le, Int32.not_lt, Nat.not_le, Nat.not_lt, nI_leI, nI_ltI, nI_eq, nI_le0, nI_lt0] at c44
              refine am_iload fx dX5_bestOn_47 rfl ?_
              refine am_istore_n fx dX5_bestOn_49 (by decide) rfl ?_
              refine am_aload_n fx dX5_bestOn_50 rfl ?_
              refine am_getR fx dX5_bestOn_51 fkX5_11 (by decide) (by decide) rfl (so5 hb) (rf5_0 hb) ?_
              refine am_iload fx dX5_bestOn_54 rfl ?_
              refine am_aald  fx dX5_bestOn_56 (sa5_0 hb) rfl (by omega) (by decide) (rg5_0 hb (by omega)) ?_
              refine am_iload_n fx dX5_bestOn_57 rfl ?_
              refine am_iald  fx dX5_bestOn_58 (sg5_0 hb (by omega)) rfl (by omega) (by decide) rfl ?_
              refine am_istore_n fx dX5_bestOn_59 (by decide) rfl ?_
              first | refine am_iinc fx dX5_bestOn_60 rfl (nI_inc _) (by decide) rfl ?_ | refine am_iinc fx dX5_bestOn_60 rfl rfl (by decide) rfl ?_
              refine am_goto fx 8 dX5_bestOn_63 (by decide) ?_
              exact ih (S - (r + 1)) (by omega) (r + 1) _ _ rfl (by omega) (by rw [am1_t (p := (fun s => decide (mm_I μ 16 s = nI N))) (c := (fun s => mm_I μ (4 + s) i)) (by simpa using c31) (by rw [← hy]; exact c44)]; rfl) (by rw [am1_t (p := (fun s => decide (mm_I μ 16 s = nI N))) (c := (fun s => mm_I μ (4 + s) i)) (by simpa using c31) (by rw [← hy]; exact c44)]; rfl)
  exact lp8 _ 0 _ _ rfl (by omega) rfl rfl

set_option maxRecDepth 100000 in
set_option maxHeartbeats 4000000 in
theorem ct_X5_nearestLearning {E : am_E} {μ : am_M} (hb : Bs μ) {S N : Nat} (ht : Tb μ S N) (i : Nat) (hi : i < N) (hc : ∀ j, j < N → di μ j i < 2147483647) : am_Ct E yX5_nearestLearning cX5_nearestLearning 5 (some .int) rmX5_nearestLearning [.ref 2, .int (nI i)] μ (fun v μ' => v = some (.int (enO (-1) (am1 (fun j => decide (j ≠ i) && decide (¬ mm_I μ 20 j = 0)) (fun j => di μ j i) N))) ∧ μ = μ') := by
  refine am_Ct.of (ls := [some (.ref 2), some (.int (nI i)), none, none, none]) (by decide) (Nat.le_of_ble_eq_true rfl) rfl (fun C fx hnm => ?_)
  have hS := ht.s
  have hN := ht.n
  refine am_iconst (v := (-1)) fx dX5_nearestLearning_0 (by decide) ?_
  refine am_istore_n fx dX5_nearestLearning_1 (by decide) rfl ?_
  refine am_ldc fx dX5_nearestLearning_2 kdX5_56 ?_
  refine am_istore_n fx dX5_nearestLearning_4 (by decide) rfl ?_
  refine am_iconst (v := 0) fx dX5_nearestLearning_5 (by decide) ?_
  refine am_istore fx dX5_nearestLearning_6 (by decide) rfl ?_
  have lp8 : ∀ (mz : Nat) (r : Nat) (x y : Int32), N - r = mz → r ≤ N → x = enO (-1) (am1 (fun j => decide (j ≠ i) && decide (¬ mm_I μ 20 j = 0)) (fun j => di μ j i) r) → y = lsO (fun j => di μ j i) (am1 (fun j => decide (j ≠ i) && decide (¬ mm_I μ 20 j = 0)) (fun j => di μ j i) r) → am_W E C (am_MQ E C (fun v μ' => v = some (.int (enO (-1) (am1 (fun j => decide (j ≠ i) && decide (¬ mm_I μ 20 j = 0)) (fun j => di μ j i) N))) ∧ μ = μ') (rmX5_nearestLearning).cells (rmX5_nearestLearning).slots) μ 0 0 8 [some (.ref 2), some (.int (nI i)), some (.int x), some (.int y), some (.int (nI r))] [] := by
    intro mz
    induction mz using Nat.strongRecOn with
    | ind mz ih =>
      intro r x y hn hr hx hy
      refine am_iload fx dX5_nearestLearning_8 rfl ?_
      refine am_aload_n fx dX5_nearestLearning_10 rfl ?_
      refine am_getI fx dX5_nearestLearning_11 fkX5_31 (by decide) (by decide) rfl (so5 hb) ht.2.1 ?_
      refine am_icmp_ge fx 61 dX5_nearestLearning_14 (by decide) (fun c14 => ?_) (fun c14 => ?_)
      · try simp (disch := omega) only [bz_0, Classical.not_not, Int32.not_le, Int32.not_lt, Nat.not_le, Nat.not_lt, nI_leI, nI_ltI, nI_eq, nI_le0, nI_lt0] at c14
        refine am_iload_n fx dX5_nearestLearning_61 rfl ?_
        exact am_iret fx dX5_nearestLearning_62 ⟨by rw [hx, show r = N by omega], rfl⟩
      · try simp (disch := omega) only [bz_0, Classical.not_not, Int32.not_le, Int32.not_lt, Nat.not_le, Nat.not_lt, nI_leI, nI_ltI, nI_eq, nI_le0, nI_lt0] at c14
        refine am_iload fx dX5_nearestLearning_17 rfl ?_
        refine am_iload_n fx dX5_nearestLearning_19 rfl ?_
        refine am_icmp_eq fx 55 dX5_nearestLearning_20 (by decide) (fun c20 => ?_) (fun c20 => ?_)
        · try simp (disch := omega) only [bz_0, Classical.not_not, Int32.not_le, Int32.not_lt, Nat.not_le, Nat.not_lt, nI_leI, nI_ltI, nI_eq, nI_le0, nI_lt0] at c20
          first | refine am_iinc fx dX5_nearestLearning_55 rfl (nI_inc _) (by decide) rfl ?_ | refine am_iinc fx dX5_nearestLearning_55 rfl rfl (by decide) rfl ?_
          refine am_goto fx 8 dX5_nearestLearning_58 (by decide) ?_
          exact ih (N - (r + 1)) (by omega) (r + 1) _ _ rfl (by omega) (by rw [am1_n (p := (fun j => decide (j ≠ i) && decide (¬ mm_I μ 20 j = 0))) (c := (fun j => di μ j i)) (by simp [c20])]; exact hx) (by rw [am1_n (p := (fun j => decide (j ≠ i) && decide (¬ mm_I μ 20 j = 0))) (c := (fun j => di μ j i)) (by simp [c20])]; exact hy)
        · try simp (disch := omega) only [bz_0, Classical.not_not, Int32.not_le, Int32.not_lt, Nat.not_le, Nat.not_lt, nI_leI, nI_ltI, nI_eq, nI_le0, nI_lt0] at c20
          refine am_aload_n fx dX5_nearestLearning_23 rfl ?_
          refine am_getR fx dX5_nearestLearning_24 fkX5_23 (by decide) (by decide) rfl (so5 hb) (rf5_3 hb) ?_
          refine am_iload fx dX5_nearestLearning_27 rfl ?_
          refine am_zald  fx dX5_nearestLearning_29 (sa5_3 hb) rfl (by omega) (by decide) rfl ?_
          refine am_if_eq fx 55 dX5_nearestLearning_30 (by decide) (fun c30 => ?_) (fun c30 => ?_)
          · try simp (disch := omega) only [bz_0, Classical.not_not, Int32.not_le, Int32.not_lt, Nat.not_le, Nat.not_lt, nI_leI, nI_ltI, nI_eq, nI_le0, nI_lt0] at c30
            first | refine am_iinc fx dX5_nearestLearning_55 rfl (nI_inc _) (by decide) rfl ?_ | refine am_iinc fx dX5_nearestLearning_55 rfl rfl (by decide) rfl ?_
            refine am_goto fx 8 dX5_nearestLearning_58 (by decide) ?_
            exact ih (N - (r + 1)) (by omega) (r + 1) _ _ rfl (by omega) (by rw [am1_n (p := (fun j => decide (j ≠ i) && decide (¬ mm_I μ 20 j = 0))) (c := (fun j => di μ j i)) (by simp [c30])]; exact hx) (by rw [am1_n (p := (fun j => decide (j ≠ i) && decide (¬ mm_I μ 20 j = 0))) (c := (fun j => di μ j i)) (by simp [c30])]; exact hy)
          · try simp (disch := omega) only [bz_0, Classical.not_not, Int32.not_le, Int32.not_lt, Nat.not_le, Nat.not_lt, nI_leI, nI_ltI, nI_eq, nI_le0, nI_lt0] at c30
            refine am_aload_n fx dX5_nearestLearning_33 rfl ?_
            refine am_iload fx dX5_nearestLearning_34 rfl ?_
            refine am_iload_n fx dX5_nearestLearning_36 rfl ?_
            refine am_callV fx dX5_nearestLearning_37 mkX5_57 (ct_X5_distance hb ht _ _ (by assumption) (by assumption)) (so5 hb) ⟨by decide, rfl⟩ rfl (Nat.le_of_ble_eq_true rfl) ⟨by decide, by decide⟩ ⟨Nat.le_of_ble_eq_true rfl, Nat.le_of_ble_eq_true rfl⟩ rfl ?_
            rintro _ _ ⟨rfl, rfl⟩
            refine am_iload_n fx dX5_nearestLearning_40 rfl ?_
            refine am_icmp_ge fx 55 dX5_nearestLearning_41 (by decide) (fun c41 => ?_) (fun c41 => ?_)
            · try simp (disch := omega) only [bz_0, Classical.not_not, Int32.not_le, Int32.not_lt, Nat.not_le, Nat.not_lt, nI_leI, nI_ltI, nI_eq, nI_le0, nI_lt0] at c41
              first | refine am_iinc fx dX5_nearestLearning_55 rfl (nI_inc _) (by decide) rfl ?_ | refine am_iinc fx dX5_nearestLearning_55 rfl rfl (by decide) rfl ?_
              refine am_goto fx 8 dX5_nearestLearning_58 (by decide) ?_
              exact ih (N - (r + 1)) (by omega) (r + 1) _ _ rfl (by omega) (by rw [am1_f (p := (fun j => decide (j ≠ i) && decide (¬ mm_I μ 20 j = 0))) (c := (fun j => di μ j i)) (hc r (by omega)) (by rw [← hy]; exact c41)]; exact hx) (by rw [am1_f (p := (fun j => decide (j ≠ i) && decide (¬ mm_I μ 20 j = 0))) (c := (fun j => di μ j i)) (hc r (by omega)) (by rw [← hy]; exact c41)]; exact hy)
            · try simp (disch := omega) only [bz_0, Classical.not_not, Int32.not_le, Int32.not_lt, Nat.not_le, Nat.not_lt, nI_leI, nI_ltI, nI_eq, nI_le0, nI_lt0] at c41
              refine am_iload fx dX5_nearestLearning_44 rfl ?_
              refine am_istore_n fx dX5_nearestLearning_46 (by decide) rfl ?_
              refine am_aload_n fx dX5_nearestLearning_47 rfl ?_
              refine am_iload fx dX5_nearestLearning_48 rfl ?_
              refine am_iload_n fx dX5_nearestLearning_50 rfl ?_
              refine am_callV fx dX5_nearestLearning_51 mkX5_57 (ct_X5_distance hb ht _ _ (by assumption) (by assumption)) (so5 hb) ⟨by decide, rfl⟩ rfl (Nat.le_of_ble_eq_true rfl) ⟨by decide, by decide⟩ ⟨Nat.le_of_ble_eq_true rfl, Nat.le_of_ble_eq_true rfl⟩ rfl ?_
              rintro _ _ ⟨rfl, rfl⟩
              refine am_istore_n fx dX5_nearestLearning_54 (by decide) rfl ?_
              first | refine am_iinc fx dX5_nearestLearning_55 rfl (nI_inc _) (by decide) rfl ?_ | refine am_iinc fx dX5_nearestLearning_55 rfl rfl (by decide) rfl ?_
              refine am_goto fx 8 dX5_nearestLearning_58 (by decide) ?_
              exact ih (N - (r + 1)) (by omega) (r + 1) _ _ rfl (by omega) (by rw [am1_t (p := (fun j => decide (j ≠ i) && decide (¬ mm_I μ 20 j = 0))) (c := (fun j => di μ j i)) (by simp [c20, c30]) (by rw [← hy]; exact c41)]; rfl) (by rw [am1_t (p := (fun j => decide (j ≠ i) && decide (¬ mm_I μ 20 j = 0))) (c := (fun j => di μ j i)) (by simp [c20, c30]) (by rw [← hy]; exact c41)]; rfl)
  exact lp8 _ 0 _ _ rfl (by omega) rfl rfl
