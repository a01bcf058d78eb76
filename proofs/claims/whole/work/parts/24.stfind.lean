theorem i32_asc (a b : Int32) : a + b - b = a := by
  rw [Int32.sub_eq_add_neg, Int32.add_assoc, Int32.add_right_neg, Int32.add_zero]
theorem i32_r4 (a b c d : Int32) : (a + c) + (b + d) = (a + b) + (c + d) := by
  rw [Int32.add_assoc, Int32.add_assoc, ← Int32.add_assoc c b d, Int32.add_comm c b, Int32.add_assoc b c d]
theorem smQ_or {P Q R : Nat → Bool} {c : Nat → Int32} : ∀ {n : Nat}, (∀ i, i < n → R i = (P i || Q i) ∧ ¬ (P i = true ∧ Q i = true)) → smQ P c n + smQ Q c n = smQ R c n
  | 0, _ => by simp [smQ]
  | n + 1, h => by
    have ih := smQ_or (n := n) (c := c) (fun i hi => h i (by omega))
    obtain ⟨h1, h2⟩ := h n (by omega)
    simp only [smQ]
    rw [i32_r4, ih, h1]
    congr 1
    cases hp : P n <;> cases hq : Q n <;> simp_all
theorem smQ_congr {P Q : Nat → Bool} {c d : Nat → Int32} : ∀ {n : Nat}, (∀ i, i < n → P i = Q i ∧ (P i = true → c i = d i)) → smQ P c n = smQ Q d n
  | 0, _ => rfl
  | n + 1, h => by
    simp only [smQ]
    rw [smQ_congr (n := n) (fun i hi => h i (by omega))]
    obtain ⟨h1, h2⟩ := h n (by omega)
    rw [← h1]
    by_cases hp : P n = true
    · rw [if_pos hp, if_pos hp, h2 hp]
    · rw [if_neg hp, if_neg hp]
abbrev stS : Type := Int32 × Int32 × Int32 × Int32 × Int32
def stStep (wh : Nat → Bool) (S : Nat) (B F : Nat → Int32) (f c : Int32) (st : stS) : stS := match am1 wh B S, am1 wh F S with
  | some b, some h => if B b + F h < st.1 then (B b + F h, f, c, nI b, nI h) else st
  | _, _ => st
theorem stStep_congr {wh : Nat → Bool} {S : Nat} {B B' F F' : Nat → Int32} {f c : Int32} {st : stS} (hB : ∀ s, s < S → B s = B' s) (hF : ∀ s, s < S → F s = F' s) : stStep wh S B F f c st = stStep wh S B' F' f c st := by
  unfold stStep
  rw [am1_congr (p := wh) (p' := wh) (c := B) (c' := B') (fun j hj => ⟨rfl, fun _ => hB j hj⟩), am1_congr (p := wh) (p' := wh) (c := F) (c' := F') (fun j hj => ⟨rfl, fun _ => hF j hj⟩)]
  cases hb : am1 wh B' S with
  | none => rfl
  | some b =>
    cases hh : am1 wh F' S with
    | none => rfl
    | some h => simp only [hB b (am1_lt hb).1, hF h (am1_lt hh).1]
abbrev ltP (lr : Nat → Bool) (fe : Nat → Int32) (k : Nat) : Nat → Bool := fun i => lr i && decide (fe i < nI k)
abbrev geP (lr : Nat → Bool) (fe : Nat → Int32) (k : Nat) : Nat → Bool := fun i => lr i && decide (¬ fe i < nI k)
def stC (wh lr : Nat → Bool) (S N : Nat) (fe : Nat → Int32) (cs : Nat → Nat → Int32) (f : Int32) : Nat → stS → stS
  | 0, st => st
  | k + 1, st => stStep wh S (fun s => smQ (ltP lr fe (k + 1)) (cs s) N) (fun s => smQ (geP lr fe (k + 1)) (cs s) N) f (nI (k + 1)) (stC wh lr S N fe cs f k st)
def stF (wh lr : Nat → Bool) (S N : Nat) (fe : Nat → Nat → Int32) (cs : Nat → Nat → Int32) (st : stS) : Nat → stS
  | 0 => st
  | f + 1 => stC wh lr S N (fe f) cs (nI f) 100 (stF wh lr S N fe cs st f)
abbrev ftF (μ : am_M) : Nat → Nat → Int32 := fun f i => mm_I μ (18 + f) i
abbrev fld (ν : am_M) : stS := (mm_I ν 43 6, mm_I ν 43 2, mm_I ν 43 3, mm_I ν 43 4, mm_I ν 43 5)
theorem am1_ex {p : Nat → Bool} {c : Nat → Int32} : ∀ {k w : Nat}, w < k → p w = true → ∃ b, am1 p c k = some b
  | 0, w, h, _ => by omega
  | k + 1, w, h, hp => by
    rcases Nat.lt_or_ge w k with q | q
    · obtain ⟨b, hb⟩ := am1_ex (c := c) q hp
      simp only [am1, hb]
      split
      · exact ⟨k, rfl⟩
      · exact ⟨b, rfl⟩
    · rw [show w = k by omega] at hp
      cases hb : am1 p c k with
      | none => exact ⟨k, am1_n1 hp hb⟩
      | some b =>
        simp only [am1, hb]
        split
        · exact ⟨k, rfl⟩
        · exact ⟨b, rfl⟩
theorem kl_fld {ν ν' : am_M} {wh : Nat → Bool} {S : Nat} {f c : Int32} {b h : Nat} (h1 : am1 wh (mm_I ν 44) S = some b) (h2 : am1 wh (mm_I ν 45) S = some h) (e : ν' = if mm_I ν 44 b + mm_I ν 45 h < mm_I ν 43 6 then mm_sI (mm_sI (mm_sI (mm_sI (mm_sI ν 43 6 (mm_I ν 44 b + mm_I ν 45 h)) 43 2 f) 43 3 c) 43 4 (nI b)) 43 5 (nI h) else ν) : fld ν' = stStep wh S (mm_I ν 44) (mm_I ν 45) f c (fld ν) ∧ Sm (fun a => a = 43) ν ν' := by
  unfold stStep
  rw [h1, h2]
  simp only [fld]
  by_cases q : mm_I ν 44 b + mm_I ν 45 h < mm_I ν 43 6
  · rw [if_pos q] at e
    rw [if_pos q]
    subst e
    refine ⟨?_, Sm.tr (S := fun a => a = 43) (Sm.tr (Sm.tr (Sm.sI (S := fun a => a = 43) _ rfl) (Sm.sI (S := fun a => a = 43) _ rfl)) (Sm.sI (S := fun a => a = 43) _ rfl)) (Sm.tr (Sm.sI (S := fun a => a = 43) _ rfl) (Sm.sI (S := fun a => a = 43) _ rfl))⟩
    simp only [mI_sI]
    rfl
  · rw [if_neg q] at e
    rw [if_neg q]
    subst e
    exact ⟨rfl, Sm.rf _ _⟩
theorem nI_ltS {x : Int32} {k : Nat} (hk : k < 200) : x < nI (k + 1) ↔ x < nI k ∨ x = nI k := by
  rw [Int32.lt_iff_toInt_lt, Int32.lt_iff_toInt_lt, ← Int32.toInt_inj, nI_toInt (by omega), nI_toInt (by omega)]
  omega
theorem lt_or1 (l : Bool) {P Q R : Prop} [Decidable P] [Decidable Q] [Decidable R] (h : R ↔ P ∨ Q) : (l && decide R) = ((l && decide P) || (l && decide Q)) := by
  by_cases a : P <;> by_cases b : Q <;> cases l <;> simp [h, a, b]
theorem ge_or1 (l : Bool) {P Q R : Prop} [Decidable P] [Decidable Q] [Decidable R] (h : R ↔ P ∨ Q) (hn : P → Q → False) : (l && decide (¬ P)) = ((l && decide (¬ R)) || (l && decide Q)) := by
  by_cases a : P <;> by_cases b : Q <;> cases l <;> first | (exact (hn a b).elim) | simp [h, a, b]
theorem st_0 {μ ν νp : am_M} {S N fe s : Nat} (h : mm_I νp 44 s = 0 ∧ mm_I νp 45 s = smQ (lrn ν) (cst ν s) N) (hd : ∀ x k, x ≠ 43 → x ≠ 44 → x ≠ 45 → mm_I ν x k = mm_I μ x k) (hfe : ∀ i, i < N → 0 ≤ mm_I μ (18 + fe) i) (hs : s < 12) : mm_I νp 44 s = smQ (ltP (lrn μ) (ftF μ fe) 0) (cst μ s) N ∧ mm_I νp 45 s = smQ (geP (lrn μ) (ftF μ fe) 0) (cst μ s) N := by
  refine ⟨h.1.trans ?_, h.2.trans ?_⟩
  · have : ∀ n, n ≤ N → smQ (ltP (lrn μ) (ftF μ fe) 0) (cst μ s) n = 0 := by
      intro n
      induction n with
      | zero => intro _; rfl
      | succ n ih =>
        intro hn
        simp only [smQ]
        rw [ih (by omega), if_neg (by
          simp only [ltP, Bool.and_eq_true, decide_eq_true_eq, not_and]
          intro _
          exact Int32.not_lt.mpr (hfe n (by omega)))]
        rfl
    exact (this N (Nat.le_refl N)).symm
  · refine smQ_congr (fun i hi => ⟨?_, fun _ => hd _ _ (by omega) (by omega) (by omega)⟩)
    have h1 : ¬ mm_I μ (18 + fe) i < nI 0 := Int32.not_lt.mpr (hfe i hi)
    simp only [lrn, geP]
    rw [hd 20 i (by decide) (by decide) (by decide)]
    simp [h1]
theorem st_mv {μ ν2 ν3 : am_M} {S N fe k : Nat} (hF2 : ∀ s, s < S → mm_I ν2 44 s = smQ (ltP (lrn μ) (ftF μ fe) k) (cst μ s) N ∧ mm_I ν2 45 s = smQ (geP (lrn μ) (ftF μ fe) k) (cst μ s) N) (hE3 : ∀ s, s < S → mm_I ν3 44 s = mm_I ν2 44 s + smQ (fun i => decide (¬ mm_I ν2 20 i = 0) && decide (mm_I ν2 (18 + fe) i = nI k)) (cst ν2 s) N ∧ mm_I ν3 45 s = mm_I ν2 45 s - smQ (fun i => decide (¬ mm_I ν2 20 i = 0) && decide (mm_I ν2 (18 + fe) i = nI k)) (cst ν2 s) N) (he : ∀ x k, x ≠ 43 → x ≠ 44 → x ≠ 45 → mm_I ν2 x k = mm_I μ x k) (hS : S ≤ 12) (hfk : fe < 2 ∧ k < 200) :
    ∀ s, s < S → mm_I ν3 44 s = smQ (ltP (lrn μ) (ftF μ fe) (k + 1)) (cst μ s) N ∧ mm_I ν3 45 s = smQ (geP (lrn μ) (ftF μ fe) (k + 1)) (cst μ s) N := by
  intro s hs
  have hQ : smQ (fun i => decide (¬ mm_I ν2 20 i = 0) && decide (mm_I ν2 (18 + fe) i = nI k)) (cst ν2 s) N = smQ (fun i => lrn μ i && decide (ftF μ fe i = nI k)) (cst μ s) N := by
    refine smQ_congr (fun i hi => ⟨?_, fun _ => he _ _ (by omega) (by omega) (by omega)⟩)
    simp only [lrn, ftF]
    rw [he 20 i (by decide) (by decide) (by decide), he (18 + fe) i (by omega) (by omega) (by omega)]
  have h1 := hF2 s hs
  have h2 := hE3 s hs
  rw [h2.1, h2.2, h1.1, h1.2, hQ]
  have hlt : ∀ x : Int32, x < nI (k + 1) ↔ x < nI k ∨ x = nI k := fun x => nI_ltS hfk.2
  constructor
  · refine smQ_or (fun i _ => ⟨?_, ?_⟩)
    · exact lt_or1 _ (hlt _)
    · rintro ⟨q1, q2⟩
      simp only [ltP, Bool.and_eq_true, decide_eq_true_eq] at q1 q2
      rw [q2.2] at q1
      exact Int32.lt_irrefl q1.2
  · have hsum : smQ (geP (lrn μ) (ftF μ fe) (k + 1)) (cst μ s) N + smQ (fun i => lrn μ i && decide (ftF μ fe i = nI k)) (cst μ s) N = smQ (geP (lrn μ) (ftF μ fe) k) (cst μ s) N := by
      refine smQ_or (fun i _ => ⟨?_, ?_⟩)
      · exact ge_or1 _ (hlt _) (fun a b => by rw [b] at a; exact Int32.lt_irrefl a)
      · rintro ⟨q1, q2⟩
        simp only [geP, Bool.and_eq_true, decide_eq_true_eq] at q1 q2
        exact q1.2 ((hlt _).mpr (Or.inr q2.2))
    rw [← hsum]
    exact i32_asc _ _
set_option maxRecDepth 100000 in
set_option maxHeartbeats 4000000 in
theorem ct_X4_find {E : am_E} {μ : am_M} (hb : Bs μ) {S N : Nat} (ht : Tb μ S N) (hwh : ∃ s, s < S ∧ mm_I μ 16 s = nI N) (hfe : ∀ f i, f < 2 → i < N → 0 ≤ mm_I μ (18 + f) i) : am_Ct E yX4_find cX4_find 4 none rmX4_find [.ref 43, .ref 2] μ (fun v μ' => v = none ∧ Sm S3s μ μ' ∧ fld μ' = (stF (fun s => decide (mm_I μ 16 s = nI N)) (lrn μ) S N (ftF μ) (cst μ) (2147483647, mm_I μ 43 2, mm_I μ 43 3, -1, -1) 2)) := by
  refine am_Ct.of (ls := [some (.ref 43), some (.ref 2), none, none]) (by decide) (Nat.le_of_ble_eq_true rfl) rfl (fun C fx hnm => ?_)
  have hS := ht.s
  have hN := ht.n
  refine am_aload_n fx dX4_find_0 rfl ?_
  refine am_iconst (v := (-1)) fx dX4_find_1 (by decide) ?_
  refine am_putI fx dX4_find_2 fkX4_25 (by decide) (by decide) rfl rfl (so4 hb) ?_
  refine am_aload_n fx dX4_find_5 rfl ?_
  refine am_iconst (v := (-1)) fx dX4_find_6 (by decide) ?_
  refine am_putI fx dX4_find_7 fkX4_28 (by decide) (by decide) rfl rfl (so4 hb) ?_
  refine am_aload_n fx dX4_find_10 rfl ?_
  refine am_ldc fx dX4_find_11 kdX4_36 ?_
  refine am_putI fx dX4_find_13 fkX4_31 (by decide) (by decide) rfl rfl (so4 hb) ?_
  refine am_iconst (v := 0) fx dX4_find_16 (by decide) ?_
  refine am_istore_n fx dX4_find_17 (by decide) rfl ?_
  have lp18 : ∀ (mz : Nat) (fe : Nat) (ν : am_M), 2 - fe = mz → (fe ≤ 2 ∧ Sm S3s μ ν ∧ fld ν = (stF (fun s => decide (mm_I μ 16 s = nI N)) (lrn μ) S N (ftF μ) (cst μ) (2147483647, mm_I μ 43 2, mm_I μ 43 3, -1, -1) fe)) → am_W E C (am_MQ E C (fun v μ' => v = none ∧ Sm S3s μ μ' ∧ fld μ' = (stF (fun s => decide (mm_I μ 16 s = nI N)) (lrn μ) S N (ftF μ) (cst μ) (2147483647, mm_I μ 43 2, mm_I μ 43 3, -1, -1) 2)) (rmX4_find).cells (rmX4_find).slots) ν 0 0 18 [some (.ref 43), some (.ref 2), some (.int (nI fe)), none] [] := by
    intro mz
    induction mz using Nat.strongRecOn with
    | ind mz ih =>
      intro fe ν hz hI
      obtain ⟨hfe2, hM, hD⟩ := hI
      have hb2 : Bs ν := hb.fr hM.1
      have ht2 : Tb ν S N := ht.sm hM (by unfold S3s; omega)
      have hd : ∀ x k, x ≠ 43 → x ≠ 44 → x ≠ 45 → mm_I ν x k = mm_I μ x k := fun x k a b c => hM.2.1 x k (by unfold S3s; omega)
      refine am_iload_n fx dX4_find_18 rfl ?_
      refine am_iconst (v := 2) fx dX4_find_19 (by decide) ?_
      refine am_icmp_ge fx 64 dX4_find_20 (by decide) (fun c20 => ?_) (fun c20 => ?_)
      · skip
        have c20 : 2 ≤ fe := by
          have h9 : nI 2 ≤ nI fe := c20
          rwa [nI_leI (by omega) (by omega)] at h9
        exact am_vret fx dX4_find_64 ⟨rfl, hM, by rw [hD, show fe = 2 by omega]⟩
      · skip
        have c20 : fe < 2 := by
          have h9 : ¬ nI 2 ≤ nI fe := c20
          rw [nI_leI (by omega) (by omega)] at h9
          omega
        refine am_aload_n fx dX4_find_23 rfl ?_
        refine am_aload_n fx dX4_find_24 rfl ?_
        refine am_callV fx dX4_find_25 mkX4_37 (ct_X4_putAllFromCut hb2 ht2) (so4 hb2) ⟨by decide, rfl⟩ rfl (Nat.le_of_ble_eq_true rfl) ⟨by decide, by decide⟩ ⟨Nat.le_of_ble_eq_true rfl, Nat.le_of_ble_eq_true rfl⟩ rfl ?_
        rintro _ νp ⟨rfl, hP1, hP2⟩
        refine am_iconst (v := 1) fx dX4_find_28 (by decide) ?_
        refine am_istore_n fx dX4_find_29 (by decide) rfl ?_
        have lp30 : ∀ (mz : Nat) (k : Nat) (ν2 : am_M), 100 - k = mz → (k ≤ 100 ∧ Sm S3s μ ν2 ∧ fld ν2 = stC (fun s => decide (mm_I μ 16 s = nI N)) (lrn μ) S N (ftF μ fe) (cst μ) (nI fe) k (stF (fun s => decide (mm_I μ 16 s = nI N)) (lrn μ) S N (ftF μ) (cst μ) (2147483647, mm_I μ 43 2, mm_I μ 43 3, -1, -1) fe) ∧ (∀ s, s < S → mm_I ν2 44 s = smQ (ltP (lrn μ) (ftF μ fe) k) (cst μ s) N ∧ mm_I ν2 45 s = smQ (geP (lrn μ) (ftF μ fe) k) (cst μ s) N)) → am_W E C (am_MQ E C (fun v μ' => v = none ∧ Sm S3s μ μ' ∧ fld μ' = (stF (fun s => decide (mm_I μ 16 s = nI N)) (lrn μ) S N (ftF μ) (cst μ) (2147483647, mm_I μ 43 2, mm_I μ 43 3, -1, -1) 2)) (rmX4_find).cells (rmX4_find).slots) ν2 0 0 30 [some (.ref 43), some (.ref 2), some (.int (nI fe)), some (.int (nI (k + 1)))] [] := by
          intro mz
          induction mz using Nat.strongRecOn with
          | ind mz ih2 =>
            intro k ν2 hz2 hJ
            obtain ⟨hk, hM2, hD2, hF2⟩ := hJ
            have hb3 : Bs ν2 := hb.fr hM2.1
            have ht3 : Tb ν2 S N := ht.sm hM2 (by unfold S3s; omega)
            have he : ∀ x k, x ≠ 43 → x ≠ 44 → x ≠ 45 → mm_I ν2 x k = mm_I μ x k := fun x k a b c => hM2.2.1 x k (by unfold S3s; omega)
            refine am_iload_n fx dX4_find_30 rfl ?_
            refine am_bipush (v := (nI 100)) fx dX4_find_31 (by decide) ?_
            refine am_icmp_gt fx 58 dX4_find_33 (by decide) (fun c33 => ?_) (fun c33 => ?_)
            · try simp (disch := omega) only [bz_0, Classical.not_not, Int32.not_le, Int32.not_lt, Nat.not_le, Nat.not_lt, nI_leI, nI_ltI, nI_eq, nI_le0, nI_lt0] at c33
              first | refine am_iinc fx dX4_find_58 rfl (nI_inc _) (by decide) rfl ?_ | refine am_iinc fx dX4_find_58 rfl rfl (by decide) rfl ?_
              refine am_goto fx 18 dX4_find_61 (by decide) ?_
              refine am_sub [true, true, true, false] rfl ?_
              exact ih (2 - (fe + 1)) (by omega) (fe + 1) ν2 rfl ⟨by omega, hM2, by rw [hD2, show k = 100 by omega]; rfl⟩
            · try simp (disch := omega) only [bz_0, Classical.not_not, Int32.not_le, Int32.not_lt, Nat.not_le, Nat.not_lt, nI_leI, nI_ltI, nI_eq, nI_le0, nI_lt0] at c33
              refine am_aload_n fx dX4_find_36 rfl ?_
              refine am_aload_n fx dX4_find_37 rfl ?_
              refine am_iload_n fx dX4_find_38 rfl ?_
              refine am_iload_n fx dX4_find_39 rfl ?_
              refine am_iconst (v := 1) fx dX4_find_40 (by decide) ?_
              refine am_isub fx dX4_find_41 ?_
              refine am_topi (nI_pred k) ?_
              refine am_callV fx dX4_find_42 mkX4_41 (ct_X4_moveBelow hb3 ht3 fe (by omega) _) (so4 hb3) ⟨by decide, rfl⟩ rfl (Nat.le_of_ble_eq_true rfl) ⟨by decide, by decide⟩ ⟨Nat.le_of_ble_eq_true rfl, Nat.le_of_ble_eq_true rfl⟩ rfl ?_
              rintro _ ν3 ⟨rfl, hM3, hE3⟩
              have hb4 : Bs ν3 := hb3.fr hM3.1
              have ht4 : Tb ν3 S N := ht3.sm hM3 (by unfold S45; omega)
              have hF3 := st_mv (S := S) hF2 hE3 he (by omega) (by omega)
              have h16 : (fun s => decide (mm_I ν3 16 s = nI N)) = (fun s => decide (mm_I μ 16 s = nI N)) := funext fun s => by rw [hM3.2.1 16 s (by unfold S45; omega), he 16 s (by decide) (by decide) (by decide)]
              obtain ⟨b, hb1⟩ : ∃ b, am1 (fun s => decide (mm_I ν3 16 s = nI N)) (mm_I ν3 44) S = some b := by
                obtain ⟨s, h1, h2⟩ := hwh
                exact am1_ex h1 (decide_eq_true (by rw [hM3.2.1 16 s (by unfold S45; omega), he 16 s (by decide) (by decide) (by decide)]; exact h2))
              obtain ⟨h, hh1⟩ : ∃ b, am1 (fun s => decide (mm_I ν3 16 s = nI N)) (mm_I ν3 45) S = some b := by
                obtain ⟨s, h1, h2⟩ := hwh
                exact am1_ex h1 (decide_eq_true (by rw [hM3.2.1 16 s (by unfold S45; omega), he 16 s (by decide) (by decide) (by decide)]; exact h2))
              refine am_aload_n fx dX4_find_45 rfl ?_
              refine am_aload_n fx dX4_find_46 rfl ?_
              refine am_iload_n fx dX4_find_47 rfl ?_
              refine am_iload_n fx dX4_find_48 rfl ?_
              refine am_callV fx dX4_find_49 mkX4_45 (ct_X4_keepIfLess hb4 ht4 _ _ hb1 hh1) (so4 hb4) ⟨by decide, rfl⟩ rfl (Nat.le_of_ble_eq_true rfl) ⟨by decide, by decide⟩ ⟨Nat.le_of_ble_eq_true rfl, Nat.le_of_ble_eq_true rfl⟩ rfl ?_
              rintro _ ν4 ⟨rfl, hν4⟩
              obtain ⟨hK, hM4⟩ := kl_fld hb1 hh1 hν4
              have hf3 : fld ν3 = fld ν2 := by simp only [fld]; rw [hM3.2.1 43 _ (by unfold S45; omega), hM3.2.1 43 _ (by unfold S45; omega), hM3.2.1 43 _ (by unfold S45; omega), hM3.2.1 43 _ (by unfold S45; omega), hM3.2.1 43 _ (by unfold S45; omega)]
              have hD4 : fld ν4 = stC (fun s => decide (mm_I μ 16 s = nI N)) (lrn μ) S N (ftF μ fe) (cst μ) (nI fe) (k + 1) (stF (fun s => decide (mm_I μ 16 s = nI N)) (lrn μ) S N (ftF μ) (cst μ) (2147483647, mm_I μ 43 2, mm_I μ 43 3, -1, -1) fe) := by
                rw [hK, hf3, hD2, h16]
                exact stStep_congr (fun s hs => (hF3 s hs).1) (fun s hs => (hF3 s hs).2)
              first | refine am_iinc fx dX4_find_52 rfl (nI_inc _) (by decide) rfl ?_ | refine am_iinc fx dX4_find_52 rfl rfl (by decide) rfl ?_
              refine am_goto fx 30 dX4_find_55 (by decide) ?_
              exact ih2 (100 - (k + 1)) (by omega) (k + 1) ν4 rfl ⟨by omega, (hM2.tr (hM3.mono (fun a h => by unfold S45 at h; unfold S3s; omega))).tr (hM4.mono (fun a h => by unfold S3s; omega)), hD4, fun s hs => ⟨(hM4.2.1 44 s (by decide)).trans (hF3 s hs).1, (hM4.2.1 45 s (by decide)).trans (hF3 s hs).2⟩⟩
        exact lp30 _ 0 _ rfl ⟨by omega, hM.tr (hP1.mono (fun a h => by unfold S45 at h; unfold S3s; omega)), by
          show fld νp = stF _ _ _ _ _ _ _ fe
          rw [← hD]
          simp only [fld]
          rw [hP1.2.1 43 _ (by unfold S45; omega), hP1.2.1 43 _ (by unfold S45; omega), hP1.2.1 43 _ (by unfold S45; omega), hP1.2.1 43 _ (by unfold S45; omega), hP1.2.1 43 _ (by unfold S45; omega)], fun s hs => st_0 (S := S) (hP2 s hs) hd (fun i hi => hfe fe i (by omega) hi) (by omega)⟩
  refine am_sub [true, true, true, false] rfl ?_
  exact lp18 _ 0 _ rfl ⟨by omega, ((Sm.sI _ (Or.inl rfl)).tr (Sm.sI _ (Or.inl rfl))).tr (Sm.sI _ (Or.inl rfl)), by simp only [fld, mI_sI]; rfl⟩
